/-! contract: by program -/
abbrev rmL_seen : Room := { frames := 8, cells := 172, slots := 1186, locals := 193 }
set_option maxHeartbeats 8000000 in
set_option maxRecDepth 100000 in
theorem ctL_seen (l : Launch) (hl0 : l.stackTraces = false) (g : GG) (t : GT) (a_dw0 : Nat → Nat → Nat) (ra_dw0 : Nat → Nat → Nat) (V_dw0 : DV) (sz : Nat) {post : DV → (Nat → Nat) → (Nat → Int32) → Prop} (hw : wpL_seen V_dw0 post) :
    Met l yL_seen wsB_L_seen rmL_seen (gPL g t sz (List.flatten [kDW g a_dw0 ra_dw0 V_dw0]) [.ref (a_dw0 0 0)]) (va_Qr (fun w : DV × (Nat → Nat) × (Nat → Int32) => post w.1 w.2.1 w.2.2) (fun w a tt => a = (fun w : DV × (Nat → Nat) × (Nat → Int32) => w.2.1 0) w ∧ gB g (List.flatten [kDW g a_dw0 ra_dw0 V_dw0]) sz (List.flatten ((fun w : DV × (Nat → Nat) × (Nat → Int32) => [kDW g a_dw0 ra_dw0 w.1, kAr g w.2.1 160 w.2.2]) w)) tt) (va_A (List.flatten [kDW g a_dw0 ra_dw0 V_dw0]) sz)) 172 1186 (va_A (List.flatten [kDW g a_dw0 ra_dw0 V_dw0]) sz) := by
  refine gOfL (cc := cL_seen) (maxL := 5) (ret := (some (.array .int))) (by decide) rfl (Nat.le_of_ble_eq_true rfl) ?_
  intro p e s m below meth c ls Q A hQ hx hb hr hml hts hown hlocks hE hA0 hsz hP hD hA hS hl hX hN
  have hl : lv_has ls 5 [(0, .ref (a_dw0 0 0))] := hl
  have L175 : ∀ (n : Nat) (x2_175 : Int32) (V_dw0_175 : DV) (at_y3_175 : Nat → Nat) (f_y3_175 : Nat → Int32) (H : Heap) (locs : List Loc) (ls : Array Slot) (cl sl : Nat), cl + zbud 16 n ≤ 172 → sl + zbud 96 n ≤ 1186 → wpL_seen_L175 post n x2_175 V_dw0_175 at_y3_175 f_y3_175 → va_P g.1 vwCl (List.flatten [kDW g a_dw0 ra_dw0 V_dw0_175, kAr g at_y3_175 160 f_y3_175]) H → va_D A (List.flatten [kDW g a_dw0 ra_dw0 V_dw0_175, kAr g at_y3_175 160 f_y3_175]) → va_S A s.heap H locs → lv_has ls 5 [(0, .ref (a_dw0 0 0)), (1, .ref (at_y3_175 0)), (2, .int x2_175)] → W p l e rmL_seen s m (([.ref (a_dw0 0 0)] : List Value).toArray) below meth c H locs cl sl Q (F0 m 175 ls []) := by
    intro n_175
    induction n_175 with
    | zero => intro x2_175 V_dw0_175 at_y3_175 f_y3_175 H locs ls cl sl _ _ hw; exact False.elim hw
    | succ n_175 ih_175 =>
      intro x2_175 V_dw0_175 at_y3_175 f_y3_175 H locs ls cl_175 sl_175 hc_175 hs_175 hw hP hD hS hl
      have hc_175 := zbud_s hc_175
      have hs_175 := zbud_s hs_175
      have L232 : ∀ (n : Nat) (x2_232 : Int32) (x3_232 : Int32) (x4_232 : Int32) (V_dw0_232 : DV) (at_y3_232 : Nat → Nat) (f_y3_232 : Nat → Int32) (H : Heap) (locs : List Loc) (ls : Array Slot) (cl sl : Nat), cl + zbud 2 n ≤ cl_175 + 16 → sl + zbud 12 n ≤ sl_175 + 96 → wpL_seen_L232 (wpL_seen_L175 post n_175) post n x2_232 x3_232 x4_232 V_dw0_232 at_y3_232 f_y3_232 → va_P g.1 vwCl (List.flatten [kDW g a_dw0 ra_dw0 V_dw0_232, kAr g at_y3_232 160 f_y3_232]) H → va_D A (List.flatten [kDW g a_dw0 ra_dw0 V_dw0_232, kAr g at_y3_232 160 f_y3_232]) → va_S A s.heap H locs → lv_has ls 5 [(0, .ref (a_dw0 0 0)), (1, .ref (at_y3_232 0)), (2, .int x2_232), (3, .int x3_232), (4, .int x4_232)] → W p l e rmL_seen s m (([.ref (a_dw0 0 0)] : List Value).toArray) below meth c H locs cl sl Q (F0 m 232 ls []) := by
        intro n_232
        induction n_232 with
        | zero => intro x2_232 x3_232 x4_232 V_dw0_232 at_y3_232 f_y3_232 H locs ls cl sl _ _ hw; exact False.elim hw
        | succ n_232 ih_232 =>
          intro x2_232 x3_232 x4_232 V_dw0_232 at_y3_232 f_y3_232 H locs ls cl_232 sl_232 hc_232 hs_232 hw hP hD hS hl
          have hc_232 := zbud_s hc_232
          have hs_232 := zbud_s hs_232
          refine lv_iload hx hb dL_seen_232 (lv_at hl 4 rfl) ?_
          refine lv_aload_n hx hb dL_seen_234 rfl (lv_at hl 0 rfl) ?_
          refine lv_iload_n hx hb dL_seen_235 rfl (lv_at hl 2 rfl) ?_
          refine gCi1 (bs := [kDW g a_dw0 ra_dw0 V_dw0_232, kAr g at_y3_232 160 f_y3_232]) (wf := (fun v => [kDW g a_dw0 ra_dw0 v])) (gRunVL (As := [.int x2_232]) (rest := [.int x4_232]) ⟨hx, hb, hml, hown, hts⟩ (gMetL (ctP_queueLength l hl0 g t a_dw0 ra_dw0 _ V_dw0_232 x2_232 (show wpD_queueLength x2_232 V_dw0_232 _ from hw))) (cwV 1 hts (goodF gV_X6_queueLength) rfl rfl rfl (by decide +kernel) ⟨Nat.le_of_ble_eq_true rfl, Nat.le_of_ble_eq_true rfl⟩) hE hN hX hS (gFree (bs := [kDW g a_dw0 ra_dw0 V_dw0_232, kAr g at_y3_232 160 f_y3_232]) hD hS hA [0]) (gSub (bs := [kDW g a_dw0 ra_dw0 V_dw0_232, kAr g at_y3_232 160 f_y3_232]) hP [0]) (gDSub (bs := [kDW g a_dw0 ra_dw0 V_dw0_232, kAr g at_y3_232 160 f_y3_232]) hD [0] rfl) 0 10 rfl rfl rfl rfl rfl hl.1 rfl (lv_room (Nat.le_of_ble_eq_true rfl)) dL_seen_236 ⟨(by show _ ≤ 172; omega), (by show _ ≤ 1186; omega)⟩) hP hD hS hA [0] rfl (fun _ => rfl) rfl (fun r31 V_v31 H locs hw hP hD hS => ?_)
          have hP : va_P g.1 vwCl (List.flatten [kDW g a_dw0 ra_dw0 V_v31, kAr g at_y3_232 160 f_y3_232]) H := hP
          have hD : va_D A (List.flatten [kDW g a_dw0 ra_dw0 V_v31, kAr g at_y3_232 160 f_y3_232]) := hD
          refine lv_icmp_ge (tgt := 263) hx hb dL_seen_239 (by decide) (fun c_239 => ?_) (fun c_239 => ?_)
          · have hw := hw.1 c_239
            refine lv_iinc (v := (x2_232 + 1)) (lv' := [(2, .int (x2_232 + 1)), (0, .ref (a_dw0 0 0)), (1, .ref (at_y3_232 0)), (3, .int x3_232), (4, .int x4_232)]) hx hb dL_seen_263 hl (k := 2) rfl rfl (by decide) rfl (fun ls hl => ?_)
            refine lv_goto (tgt := 175) hx hb dL_seen_266 (by decide) ?_
            exact ih_175 (x2_232 + 1) V_v31 at_y3_232 f_y3_232 _ _ _ _ _ (by omega) (by omega) hw hP hD hS (lv_sub hl [1, 2, 0] rfl)
          · have hw := hw.2 c_239
            refine lv_aload_n hx hb dL_seen_242 rfl (lv_at hl 1 rfl) ?_
            refine lv_iload_n hx hb dL_seen_243 rfl (lv_at hl 3 rfl) ?_
            refine lv_iconst (v := 4) hx hb dL_seen_244 (by decide) ?_
            refine lv_iadd hx hb dL_seen_245 ?_
            refine lv_iload hx hb dL_seen_246 (lv_at hl 4 rfl) ?_
            refine lv_iadd hx hb dL_seen_248 ?_
            refine lv_aload_n hx hb dL_seen_249 rfl (lv_at hl 0 rfl) ?_
            refine lv_iload_n hx hb dL_seen_250 rfl (lv_at hl 2 rfl) ?_
            refine lv_iload hx hb dL_seen_251 (lv_at hl 4 rfl) ?_
            refine gCi1 (bs := [kDW g a_dw0 ra_dw0 V_v31, kAr g at_y3_232 160 f_y3_232]) (wf := (fun v => [kDW g a_dw0 ra_dw0 v])) (gRunSWL (As := [.ref (a_dw0 0 0), .int x2_232, .int x4_232]) (rest := [.int ((x3_232 + 4) + x4_232), .ref (at_y3_232 0)]) ⟨hx, hb, hml, hown, hts⟩ (gMetL (ctL_queuedStreet l hl0 g t a_dw0 ra_dw0 _ V_v31 x2_232 x4_232 hw)) (vx_cwSW 3 hts (goodF gS_L_queuedStreet) rfl rfl rfl (by decide +kernel) ⟨Nat.le_of_ble_eq_true rfl, Nat.le_of_ble_eq_true rfl⟩) hE hN hX hS (gFree (bs := [kDW g a_dw0 ra_dw0 V_v31, kAr g at_y3_232 160 f_y3_232]) hD hS hA [0]) (gSub (bs := [kDW g a_dw0 ra_dw0 V_v31, kAr g at_y3_232 160 f_y3_232]) hP [0]) (gDSub (bs := [kDW g a_dw0 ra_dw0 V_v31, kAr g at_y3_232 160 f_y3_232]) hD [0] rfl) rfl rfl hl.1 rfl (lv_room (Nat.le_of_ble_eq_true rfl)) dL_seen_253 ⟨(by show _ ≤ 172; omega), (by show _ ≤ 1186; omega)⟩) hP hD hS hA [0] rfl (fun _ => rfl) rfl (fun r32 V_v32 H locs hw hP hD hS => ?_)
            have hP : va_P g.1 vwCl (List.flatten [kDW g a_dw0 ra_dw0 V_v32, kAr g at_y3_232 160 f_y3_232]) H := hP
            have hD : va_D A (List.flatten [kDW g a_dw0 ra_dw0 V_v32, kAr g at_y3_232 160 f_y3_232]) := hD
            have h33 := hw.1
            have hw := hw.2
            refine va_iast hx hb hE.1 hP hD hS _ 0 kAr_get rfl h33 dL_seen_256 (fun H locs hP hD hS => ?_)
            rw [kAr_set] at hP hD
            have hP : va_P g.1 vwCl (List.flatten [kDW g a_dw0 ra_dw0 V_v32, kAr g at_y3_232 160 (upd f_y3_232 ((x3_232 + 4) + x4_232).toNatClampNeg r32)]) H := hP
            have hD : va_D A (List.flatten [kDW g a_dw0 ra_dw0 V_v32, kAr g at_y3_232 160 (upd f_y3_232 ((x3_232 + 4) + x4_232).toNatClampNeg r32)]) := hD
            refine lv_iinc (v := (x4_232 + 1)) (lv' := [(4, .int (x4_232 + 1)), (0, .ref (a_dw0 0 0)), (1, .ref (at_y3_232 0)), (2, .int x2_232), (3, .int x3_232)]) hx hb dL_seen_257 hl (k := 4) rfl rfl (by decide) rfl (fun ls hl => ?_)
            refine lv_goto (tgt := 232) hx hb dL_seen_260 (by decide) ?_
            exact ih_232 x2_232 x3_232 (x4_232 + 1) V_v32 at_y3_232 (upd f_y3_232 ((x3_232 + 4) + x4_232).toNatClampNeg r32) _ _ _ _ _ (by omega) (by omega) hw hP hD hS (lv_sub hl [1, 2, 3, 4, 0] rfl)
      refine lv_iload_n hx hb dL_seen_175 rfl (lv_at hl 2 rfl) ?_
      refine lv_aload_n hx hb dL_seen_176 rfl (lv_at hl 0 rfl) ?_
      refine gCi1 (bs := [kDW g a_dw0 ra_dw0 V_dw0_175, kAr g at_y3_175 160 f_y3_175]) (wf := (fun v => [kDW g a_dw0 ra_dw0 v])) (gRunVL (As := []) (rest := [.int x2_175]) ⟨hx, hb, hml, hown, hts⟩ (gMetL (ctP_ploughCount l hl0 g t a_dw0 ra_dw0 _ V_dw0_175 hw)) (cwV 0 hts (goodF gV_X6_ploughCount) rfl rfl rfl (by decide +kernel) ⟨Nat.le_of_ble_eq_true rfl, Nat.le_of_ble_eq_true rfl⟩) hE hN hX hS (gFree (bs := [kDW g a_dw0 ra_dw0 V_dw0_175, kAr g at_y3_175 160 f_y3_175]) hD hS hA [0]) (gSub (bs := [kDW g a_dw0 ra_dw0 V_dw0_175, kAr g at_y3_175 160 f_y3_175]) hP [0]) (gDSub (bs := [kDW g a_dw0 ra_dw0 V_dw0_175, kAr g at_y3_175 160 f_y3_175]) hD [0] rfl) 0 10 rfl rfl rfl rfl rfl hl.1 rfl (lv_room (Nat.le_of_ble_eq_true rfl)) dL_seen_177 ⟨(by show _ ≤ 172; omega), (by show _ ≤ 1186; omega)⟩) hP hD hS hA [0] rfl (fun _ => rfl) rfl (fun r22 V_v22 H locs hw hP hD hS => ?_)
      have hP : va_P g.1 vwCl (List.flatten [kDW g a_dw0 ra_dw0 V_v22, kAr g at_y3_175 160 f_y3_175]) H := hP
      have hD : va_D A (List.flatten [kDW g a_dw0 ra_dw0 V_v22, kAr g at_y3_175 160 f_y3_175]) := hD
      refine lv_icmp_ge (tgt := 269) hx hb dL_seen_180 (by decide) (fun c_180 => ?_) (fun c_180 => ?_)
      · have hw := hw.1 c_180
        refine lv_aload_n hx hb dL_seen_269 rfl (lv_at hl 1 rfl) ?_
        subst hQ
        refine W.widen (k := 172) (n := 1186) (by omega) (by omega) ?_
        exact W.aret hx hb hr (Or.inr ⟨_, rfl⟩) (Or.inr ⟨_, rfl⟩) (gRn (w := (V_v22, at_y3_175, f_y3_175)) (ad := (fun w : DV × (Nat → Nat) × (Nat → Int32) => w.2.1 0)) (wf := (fun w : DV × (Nat → Nat) × (Nat → Int32) => [kDW g a_dw0 ra_dw0 w.1, kAr g w.2.1 160 w.2.2])) hA0 hsz hw hP hD hS) hS.2.2 dL_seen_270
      · have hw := hw.2 c_180
        refine lv_bipush (v := 100) hx hb dL_seen_183 (by decide) ?_
        refine lv_bipush (v := 10) hx hb dL_seen_185 (by decide) ?_
        refine lv_iload_n hx hb dL_seen_187 rfl (lv_at hl 2 rfl) ?_
        refine lv_imul hx hb dL_seen_188 ?_
        refine lv_iadd hx hb dL_seen_189 ?_
        refine lv_istore_n (lv' := [(3, .int (100 + (10 * x2_175))), (0, .ref (a_dw0 0 0)), (1, .ref (at_y3_175 0)), (2, .int x2_175)]) hx hb dL_seen_190 rfl hl (by decide) rfl (fun ls hl => ?_)
        refine lv_aload_n hx hb dL_seen_191 rfl (lv_at hl 2 rfl) ?_
        refine lv_iload_n hx hb dL_seen_192 rfl (lv_at hl 0 rfl) ?_
        refine lv_aload_n hx hb dL_seen_193 rfl (lv_at hl 1 rfl) ?_
        refine lv_iload_n hx hb dL_seen_194 rfl (lv_at hl 3 rfl) ?_
        refine gCi1 (bs := [kDW g a_dw0 ra_dw0 V_v22, kAr g at_y3_175 160 f_y3_175]) (wf := (fun v => [kDW g a_dw0 ra_dw0 v])) (gRunVL (As := [.int x2_175]) (rest := [.int (100 + (10 * x2_175)), .ref (at_y3_175 0)]) ⟨hx, hb, hml, hown, hts⟩ (gMetL (ctP_junction l hl0 g t a_dw0 ra_dw0 _ V_v22 x2_175 (show wpD_junction x2_175 V_v22 _ from hw))) (cwV 1 hts (goodF gV_X6_junction) rfl rfl rfl (by decide +kernel) ⟨Nat.le_of_ble_eq_true rfl, Nat.le_of_ble_eq_true rfl⟩) hE hN hX hS (gFree (bs := [kDW g a_dw0 ra_dw0 V_v22, kAr g at_y3_175 160 f_y3_175]) hD hS hA [0]) (gSub (bs := [kDW g a_dw0 ra_dw0 V_v22, kAr g at_y3_175 160 f_y3_175]) hP [0]) (gDSub (bs := [kDW g a_dw0 ra_dw0 V_v22, kAr g at_y3_175 160 f_y3_175]) hD [0] rfl) 0 10 rfl rfl rfl rfl rfl hl.1 rfl (lv_room (Nat.le_of_ble_eq_true rfl)) dL_seen_195 ⟨(by show _ ≤ 172; omega), (by show _ ≤ 1186; omega)⟩) hP hD hS hA [0] rfl (fun _ => rfl) rfl (fun r23 V_v23 H locs hw hP hD hS => ?_)
        have hP : va_P g.1 vwCl (List.flatten [kDW g a_dw0 ra_dw0 V_v23, kAr g at_y3_175 160 f_y3_175]) H := hP
        have hD : va_D A (List.flatten [kDW g a_dw0 ra_dw0 V_v23, kAr g at_y3_175 160 f_y3_175]) := hD
        have h24 := hw.1
        have hw := hw.2
        refine va_iast hx hb hE.1 hP hD hS _ 0 kAr_get rfl h24 dL_seen_198 (fun H locs hP hD hS => ?_)
        rw [kAr_set] at hP hD
        have hP : va_P g.1 vwCl (List.flatten [kDW g a_dw0 ra_dw0 V_v23, kAr g at_y3_175 160 (upd f_y3_175 (100 + (10 * x2_175)).toNatClampNeg r23)]) H := hP
        have hD : va_D A (List.flatten [kDW g a_dw0 ra_dw0 V_v23, kAr g at_y3_175 160 (upd f_y3_175 (100 + (10 * x2_175)).toNatClampNeg r23)]) := hD
        refine lv_aload_n hx hb dL_seen_199 rfl (lv_at hl 2 rfl) ?_
        refine lv_iload_n hx hb dL_seen_200 rfl (lv_at hl 0 rfl) ?_
        refine lv_iconst (v := 1) hx hb dL_seen_201 (by decide) ?_
        refine lv_iadd hx hb dL_seen_202 ?_
        refine lv_aload_n hx hb dL_seen_203 rfl (lv_at hl 1 rfl) ?_
        refine lv_iload_n hx hb dL_seen_204 rfl (lv_at hl 3 rfl) ?_
        refine gCi1 (bs := [kDW g a_dw0 ra_dw0 V_v23, kAr g at_y3_175 160 (upd f_y3_175 (100 + (10 * x2_175)).toNatClampNeg r23)]) (wf := (fun v => [kDW g a_dw0 ra_dw0 v])) (gRunVL (As := [.int x2_175]) (rest := [.int ((100 + (10 * x2_175)) + 1), .ref (at_y3_175 0)]) ⟨hx, hb, hml, hown, hts⟩ (gMetL (ctP_busyMinutes l hl0 g t a_dw0 ra_dw0 _ V_v23 x2_175 (show wpD_busyMinutes x2_175 V_v23 _ from hw))) (cwV 1 hts (goodF gV_X6_busyMinutes) rfl rfl rfl (by decide +kernel) ⟨Nat.le_of_ble_eq_true rfl, Nat.le_of_ble_eq_true rfl⟩) hE hN hX hS (gFree (bs := [kDW g a_dw0 ra_dw0 V_v23, kAr g at_y3_175 160 (upd f_y3_175 (100 + (10 * x2_175)).toNatClampNeg r23)]) hD hS hA [0]) (gSub (bs := [kDW g a_dw0 ra_dw0 V_v23, kAr g at_y3_175 160 (upd f_y3_175 (100 + (10 * x2_175)).toNatClampNeg r23)]) hP [0]) (gDSub (bs := [kDW g a_dw0 ra_dw0 V_v23, kAr g at_y3_175 160 (upd f_y3_175 (100 + (10 * x2_175)).toNatClampNeg r23)]) hD [0] rfl) 0 10 rfl rfl rfl rfl rfl hl.1 rfl (lv_room (Nat.le_of_ble_eq_true rfl)) dL_seen_205 ⟨(by show _ ≤ 172; omega), (by show _ ≤ 1186; omega)⟩) hP hD hS hA [0] rfl (fun _ => rfl) rfl (fun r25 V_v25 H locs hw hP hD hS => ?_)
        have hP : va_P g.1 vwCl (List.flatten [kDW g a_dw0 ra_dw0 V_v25, kAr g at_y3_175 160 (upd f_y3_175 (100 + (10 * x2_175)).toNatClampNeg r23)]) H := hP
        have hD : va_D A (List.flatten [kDW g a_dw0 ra_dw0 V_v25, kAr g at_y3_175 160 (upd f_y3_175 (100 + (10 * x2_175)).toNatClampNeg r23)]) := hD
        have h26 := hw.1
        have hw := hw.2
        refine va_iast hx hb hE.1 hP hD hS _ 0 kAr_get rfl h26 dL_seen_208 (fun H locs hP hD hS => ?_)
        rw [kAr_set] at hP hD
        have hP : va_P g.1 vwCl (List.flatten [kDW g a_dw0 ra_dw0 V_v25, kAr g at_y3_175 160 (upd (upd f_y3_175 (100 + (10 * x2_175)).toNatClampNeg r23) ((100 + (10 * x2_175)) + 1).toNatClampNeg r25)]) H := hP
        have hD : va_D A (List.flatten [kDW g a_dw0 ra_dw0 V_v25, kAr g at_y3_175 160 (upd (upd f_y3_175 (100 + (10 * x2_175)).toNatClampNeg r23) ((100 + (10 * x2_175)) + 1).toNatClampNeg r25)]) := hD
        refine lv_aload_n hx hb dL_seen_209 rfl (lv_at hl 2 rfl) ?_
        refine lv_iload_n hx hb dL_seen_210 rfl (lv_at hl 0 rfl) ?_
        refine lv_iconst (v := 2) hx hb dL_seen_211 (by decide) ?_
        refine lv_iadd hx hb dL_seen_212 ?_
        refine lv_aload_n hx hb dL_seen_213 rfl (lv_at hl 1 rfl) ?_
        refine lv_iload_n hx hb dL_seen_214 rfl (lv_at hl 3 rfl) ?_
        refine gCi1 (bs := [kDW g a_dw0 ra_dw0 V_v25, kAr g at_y3_175 160 (upd (upd f_y3_175 (100 + (10 * x2_175)).toNatClampNeg r23) ((100 + (10 * x2_175)) + 1).toNatClampNeg r25)]) (wf := (fun v => [kDW g a_dw0 ra_dw0 v])) (gRunSWL (As := [.ref (a_dw0 0 0), .int x2_175]) (rest := [.int ((100 + (10 * x2_175)) + 2), .ref (at_y3_175 0)]) ⟨hx, hb, hml, hown, hts⟩ (gMetL (ctL_currentStreet l hl0 g t a_dw0 ra_dw0 _ V_v25 x2_175 hw)) (vx_cwSW 2 hts (goodF gS_L_currentStreet) rfl rfl rfl (by decide +kernel) ⟨Nat.le_of_ble_eq_true rfl, Nat.le_of_ble_eq_true rfl⟩) hE hN hX hS (gFree (bs := [kDW g a_dw0 ra_dw0 V_v25, kAr g at_y3_175 160 (upd (upd f_y3_175 (100 + (10 * x2_175)).toNatClampNeg r23) ((100 + (10 * x2_175)) + 1).toNatClampNeg r25)]) hD hS hA [0]) (gSub (bs := [kDW g a_dw0 ra_dw0 V_v25, kAr g at_y3_175 160 (upd (upd f_y3_175 (100 + (10 * x2_175)).toNatClampNeg r23) ((100 + (10 * x2_175)) + 1).toNatClampNeg r25)]) hP [0]) (gDSub (bs := [kDW g a_dw0 ra_dw0 V_v25, kAr g at_y3_175 160 (upd (upd f_y3_175 (100 + (10 * x2_175)).toNatClampNeg r23) ((100 + (10 * x2_175)) + 1).toNatClampNeg r25)]) hD [0] rfl) rfl rfl hl.1 rfl (lv_room (Nat.le_of_ble_eq_true rfl)) dL_seen_215 ⟨(by show _ ≤ 172; omega), (by show _ ≤ 1186; omega)⟩) hP hD hS hA [0] rfl (fun _ => rfl) rfl (fun r27 V_v27 H locs hw hP hD hS => ?_)
        have hP : va_P g.1 vwCl (List.flatten [kDW g a_dw0 ra_dw0 V_v27, kAr g at_y3_175 160 (upd (upd f_y3_175 (100 + (10 * x2_175)).toNatClampNeg r23) ((100 + (10 * x2_175)) + 1).toNatClampNeg r25)]) H := hP
        have hD : va_D A (List.flatten [kDW g a_dw0 ra_dw0 V_v27, kAr g at_y3_175 160 (upd (upd f_y3_175 (100 + (10 * x2_175)).toNatClampNeg r23) ((100 + (10 * x2_175)) + 1).toNatClampNeg r25)]) := hD
        have h28 := hw.1
        have hw := hw.2
        refine va_iast hx hb hE.1 hP hD hS _ 0 kAr_get rfl h28 dL_seen_218 (fun H locs hP hD hS => ?_)
        rw [kAr_set] at hP hD
        have hP : va_P g.1 vwCl (List.flatten [kDW g a_dw0 ra_dw0 V_v27, kAr g at_y3_175 160 (upd (upd (upd f_y3_175 (100 + (10 * x2_175)).toNatClampNeg r23) ((100 + (10 * x2_175)) + 1).toNatClampNeg r25) ((100 + (10 * x2_175)) + 2).toNatClampNeg r27)]) H := hP
        have hD : va_D A (List.flatten [kDW g a_dw0 ra_dw0 V_v27, kAr g at_y3_175 160 (upd (upd (upd f_y3_175 (100 + (10 * x2_175)).toNatClampNeg r23) ((100 + (10 * x2_175)) + 1).toNatClampNeg r25) ((100 + (10 * x2_175)) + 2).toNatClampNeg r27)]) := hD
        refine lv_aload_n hx hb dL_seen_219 rfl (lv_at hl 2 rfl) ?_
        refine lv_iload_n hx hb dL_seen_220 rfl (lv_at hl 0 rfl) ?_
        refine lv_iconst (v := 3) hx hb dL_seen_221 (by decide) ?_
        refine lv_iadd hx hb dL_seen_222 ?_
        refine lv_aload_n hx hb dL_seen_223 rfl (lv_at hl 1 rfl) ?_
        refine lv_iload_n hx hb dL_seen_224 rfl (lv_at hl 3 rfl) ?_
        refine gCi1 (bs := [kDW g a_dw0 ra_dw0 V_v27, kAr g at_y3_175 160 (upd (upd (upd f_y3_175 (100 + (10 * x2_175)).toNatClampNeg r23) ((100 + (10 * x2_175)) + 1).toNatClampNeg r25) ((100 + (10 * x2_175)) + 2).toNatClampNeg r27)]) (wf := (fun v => [kDW g a_dw0 ra_dw0 v])) (gRunVL (As := [.int x2_175]) (rest := [.int ((100 + (10 * x2_175)) + 3), .ref (at_y3_175 0)]) ⟨hx, hb, hml, hown, hts⟩ (gMetL (ctP_queueLength l hl0 g t a_dw0 ra_dw0 _ V_v27 x2_175 (show wpD_queueLength x2_175 V_v27 _ from hw))) (cwV 1 hts (goodF gV_X6_queueLength) rfl rfl rfl (by decide +kernel) ⟨Nat.le_of_ble_eq_true rfl, Nat.le_of_ble_eq_true rfl⟩) hE hN hX hS (gFree (bs := [kDW g a_dw0 ra_dw0 V_v27, kAr g at_y3_175 160 (upd (upd (upd f_y3_175 (100 + (10 * x2_175)).toNatClampNeg r23) ((100 + (10 * x2_175)) + 1).toNatClampNeg r25) ((100 + (10 * x2_175)) + 2).toNatClampNeg r27)]) hD hS hA [0]) (gSub (bs := [kDW g a_dw0 ra_dw0 V_v27, kAr g at_y3_175 160 (upd (upd (upd f_y3_175 (100 + (10 * x2_175)).toNatClampNeg r23) ((100 + (10 * x2_175)) + 1).toNatClampNeg r25) ((100 + (10 * x2_175)) + 2).toNatClampNeg r27)]) hP [0]) (gDSub (bs := [kDW g a_dw0 ra_dw0 V_v27, kAr g at_y3_175 160 (upd (upd (upd f_y3_175 (100 + (10 * x2_175)).toNatClampNeg r23) ((100 + (10 * x2_175)) + 1).toNatClampNeg r25) ((100 + (10 * x2_175)) + 2).toNatClampNeg r27)]) hD [0] rfl) 0 10 rfl rfl rfl rfl rfl hl.1 rfl (lv_room (Nat.le_of_ble_eq_true rfl)) dL_seen_225 ⟨(by show _ ≤ 172; omega), (by show _ ≤ 1186; omega)⟩) hP hD hS hA [0] rfl (fun _ => rfl) rfl (fun r29 V_v29 H locs hw hP hD hS => ?_)
        have hP : va_P g.1 vwCl (List.flatten [kDW g a_dw0 ra_dw0 V_v29, kAr g at_y3_175 160 (upd (upd (upd f_y3_175 (100 + (10 * x2_175)).toNatClampNeg r23) ((100 + (10 * x2_175)) + 1).toNatClampNeg r25) ((100 + (10 * x2_175)) + 2).toNatClampNeg r27)]) H := hP
        have hD : va_D A (List.flatten [kDW g a_dw0 ra_dw0 V_v29, kAr g at_y3_175 160 (upd (upd (upd f_y3_175 (100 + (10 * x2_175)).toNatClampNeg r23) ((100 + (10 * x2_175)) + 1).toNatClampNeg r25) ((100 + (10 * x2_175)) + 2).toNatClampNeg r27)]) := hD
        have h30 := hw.1
        have hw := hw.2
        refine va_iast hx hb hE.1 hP hD hS _ 0 kAr_get rfl h30 dL_seen_228 (fun H locs hP hD hS => ?_)
        rw [kAr_set] at hP hD
        have hP : va_P g.1 vwCl (List.flatten [kDW g a_dw0 ra_dw0 V_v29, kAr g at_y3_175 160 (upd (upd (upd (upd f_y3_175 (100 + (10 * x2_175)).toNatClampNeg r23) ((100 + (10 * x2_175)) + 1).toNatClampNeg r25) ((100 + (10 * x2_175)) + 2).toNatClampNeg r27) ((100 + (10 * x2_175)) + 3).toNatClampNeg r29)]) H := hP
        have hD : va_D A (List.flatten [kDW g a_dw0 ra_dw0 V_v29, kAr g at_y3_175 160 (upd (upd (upd (upd f_y3_175 (100 + (10 * x2_175)).toNatClampNeg r23) ((100 + (10 * x2_175)) + 1).toNatClampNeg r25) ((100 + (10 * x2_175)) + 2).toNatClampNeg r27) ((100 + (10 * x2_175)) + 3).toNatClampNeg r29)]) := hD
        refine lv_iconst (v := 0) hx hb dL_seen_229 (by decide) ?_
        refine lv_istore (lv' := [(4, .int 0), (3, .int (100 + (10 * x2_175))), (0, .ref (a_dw0 0 0)), (1, .ref (at_y3_175 0)), (2, .int x2_175)]) hx hb dL_seen_230 hl (by decide) rfl (fun ls hl => ?_)
        obtain ⟨n, hn, hw⟩ := hw
        have hbc := zbud_le (a := 2) hn
        have hbs := zbud_le (a := 12) hn
        have hbc : zbud 2 n ≤ 12 := hbc
        have hbs : zbud 12 n ≤ 72 := hbs
        exact L232 n x2_175 (100 + (10 * x2_175)) 0 V_v29 at_y3_175 (upd (upd (upd (upd f_y3_175 (100 + (10 * x2_175)).toNatClampNeg r23) ((100 + (10 * x2_175)) + 1).toNatClampNeg r25) ((100 + (10 * x2_175)) + 2).toNatClampNeg r27) ((100 + (10 * x2_175)) + 3).toNatClampNeg r29) _ _ _ _ _ (by omega) (by omega) hw hP hD hS (lv_sub hl [2, 3, 4, 1, 0] rfl)
  have L82 : ∀ (n : Nat) (x2_82 : Int32) (V_dw0_82 : DV) (at_y3_82 : Nat → Nat) (f_y3_82 : Nat → Int32) (H : Heap) (locs : List Loc) (ls : Array Slot) (cl sl : Nat), cl + zbud 7 n ≤ 92 → sl + zbud 42 n ≤ 706 → wpL_seen_L82 post n x2_82 V_dw0_82 at_y3_82 f_y3_82 → va_P g.1 vwCl (List.flatten [kDW g a_dw0 ra_dw0 V_dw0_82, kAr g at_y3_82 160 f_y3_82]) H → va_D A (List.flatten [kDW g a_dw0 ra_dw0 V_dw0_82, kAr g at_y3_82 160 f_y3_82]) → va_S A s.heap H locs → lv_has ls 5 [(0, .ref (a_dw0 0 0)), (1, .ref (at_y3_82 0)), (2, .int x2_82)] → W p l e rmL_seen s m (([.ref (a_dw0 0 0)] : List Value).toArray) below meth c H locs cl sl Q (F0 m 82 ls []) := by
    intro n_82
    induction n_82 with
    | zero => intro x2_82 V_dw0_82 at_y3_82 f_y3_82 H locs ls cl sl _ _ hw; exact False.elim hw
    | succ n_82 ih_82 =>
      intro x2_82 V_dw0_82 at_y3_82 f_y3_82 H locs ls cl_82 sl_82 hc_82 hs_82 hw hP hD hS hl
      have hc_82 := zbud_s hc_82
      have hs_82 := zbud_s hs_82
      refine lv_iload_n hx hb dL_seen_82 rfl (lv_at hl 2 rfl) ?_
      refine lv_aload_n hx hb dL_seen_83 rfl (lv_at hl 0 rfl) ?_
      refine gCi1 (bs := [kDW g a_dw0 ra_dw0 V_dw0_82, kAr g at_y3_82 160 f_y3_82]) (wf := (fun v => [kDW g a_dw0 ra_dw0 v])) (gRunVL (As := []) (rest := [.int x2_82]) ⟨hx, hb, hml, hown, hts⟩ (gMetL (ctP_streetCount l hl0 g t a_dw0 ra_dw0 _ V_dw0_82 hw)) (cwV 0 hts (goodF gV_X6_streetCount) rfl rfl rfl (by decide +kernel) ⟨Nat.le_of_ble_eq_true rfl, Nat.le_of_ble_eq_true rfl⟩) hE hN hX hS (gFree (bs := [kDW g a_dw0 ra_dw0 V_dw0_82, kAr g at_y3_82 160 f_y3_82]) hD hS hA [0]) (gSub (bs := [kDW g a_dw0 ra_dw0 V_dw0_82, kAr g at_y3_82 160 f_y3_82]) hP [0]) (gDSub (bs := [kDW g a_dw0 ra_dw0 V_dw0_82, kAr g at_y3_82 160 f_y3_82]) hD [0] rfl) 0 10 rfl rfl rfl rfl rfl hl.1 rfl (lv_room (Nat.le_of_ble_eq_true rfl)) dL_seen_84 ⟨(by show _ ≤ 172; omega), (by show _ ≤ 1186; omega)⟩) hP hD hS hA [0] rfl (fun _ => rfl) rfl (fun r21 V_v21 H locs hw hP hD hS => ?_)
      have hP : va_P g.1 vwCl (List.flatten [kDW g a_dw0 ra_dw0 V_v21, kAr g at_y3_82 160 f_y3_82]) H := hP
      have hD : va_D A (List.flatten [kDW g a_dw0 ra_dw0 V_v21, kAr g at_y3_82 160 f_y3_82]) := hD
      refine lv_icmp_ge (tgt := 173) hx hb dL_seen_87 (by decide) (fun c_87 => ?_) (fun c_87 => ?_)
      · have hw := hw.1 c_87
        refine lv_iconst (v := 0) hx hb dL_seen_173 (by decide) ?_
        refine lv_istore_n (lv' := [(2, .int 0), (0, .ref (a_dw0 0 0)), (1, .ref (at_y3_82 0))]) hx hb dL_seen_174 rfl hl (by decide) rfl (fun ls hl => ?_)
        obtain ⟨n, hn, hw⟩ := hw
        have hbc := zbud_le (a := 16) hn
        have hbs := zbud_le (a := 96) hn
        have hbc : zbud 16 n ≤ 80 := hbc
        have hbs : zbud 96 n ≤ 480 := hbs
        exact L175 n 0 V_v21 at_y3_82 f_y3_82 _ _ _ _ _ (by omega) (by omega) hw hP hD hS (lv_sub hl [1, 2, 0] rfl)
      · have hw := hw.2 c_87
        refine lv_bipush (v := 10) hx hb dL_seen_90 (by decide) ?_
        refine lv_bipush (v := 7) hx hb dL_seen_92 (by decide) ?_
        refine lv_iload_n hx hb dL_seen_94 rfl (lv_at hl 2 rfl) ?_
        refine lv_imul hx hb dL_seen_95 ?_
        refine lv_iadd hx hb dL_seen_96 ?_
        refine lv_istore_n (lv' := [(3, .int (10 + (7 * x2_82))), (0, .ref (a_dw0 0 0)), (1, .ref (at_y3_82 0)), (2, .int x2_82)]) hx hb dL_seen_97 rfl hl (by decide) rfl (fun ls hl => ?_)
        refine lv_aload_n hx hb dL_seen_98 rfl (lv_at hl 2 rfl) ?_
        refine lv_iload_n hx hb dL_seen_99 rfl (lv_at hl 0 rfl) ?_
        refine lv_aload_n hx hb dL_seen_100 rfl (lv_at hl 1 rfl) ?_
        refine lv_iload_n hx hb dL_seen_101 rfl (lv_at hl 3 rfl) ?_
        refine gCi1 (bs := [kDW g a_dw0 ra_dw0 V_v21, kAr g at_y3_82 160 f_y3_82]) (wf := (fun v => [kDW g a_dw0 ra_dw0 v])) (gRunVL (As := [.int x2_82]) (rest := [.int (10 + (7 * x2_82)), .ref (at_y3_82 0)]) ⟨hx, hb, hml, hown, hts⟩ (gMetL (ctP_lowerEnd l hl0 g t a_dw0 ra_dw0 _ V_v21 x2_82 (show wpD_lowerEnd x2_82 V_v21 _ from hw))) (cwV 1 hts (goodF gV_X6_lowerEnd) rfl rfl rfl (by decide +kernel) ⟨Nat.le_of_ble_eq_true rfl, Nat.le_of_ble_eq_true rfl⟩) hE hN hX hS (gFree (bs := [kDW g a_dw0 ra_dw0 V_v21, kAr g at_y3_82 160 f_y3_82]) hD hS hA [0]) (gSub (bs := [kDW g a_dw0 ra_dw0 V_v21, kAr g at_y3_82 160 f_y3_82]) hP [0]) (gDSub (bs := [kDW g a_dw0 ra_dw0 V_v21, kAr g at_y3_82 160 f_y3_82]) hD [0] rfl) 0 10 rfl rfl rfl rfl rfl hl.1 rfl (lv_room (Nat.le_of_ble_eq_true rfl)) dL_seen_102 ⟨(by show _ ≤ 172; omega), (by show _ ≤ 1186; omega)⟩) hP hD hS hA [0] rfl (fun _ => rfl) rfl (fun r34 V_v34 H locs hw hP hD hS => ?_)
        have hP : va_P g.1 vwCl (List.flatten [kDW g a_dw0 ra_dw0 V_v34, kAr g at_y3_82 160 f_y3_82]) H := hP
        have hD : va_D A (List.flatten [kDW g a_dw0 ra_dw0 V_v34, kAr g at_y3_82 160 f_y3_82]) := hD
        have h35 := hw.1
        have hw := hw.2
        refine va_iast hx hb hE.1 hP hD hS _ 0 kAr_get rfl h35 dL_seen_105 (fun H locs hP hD hS => ?_)
        rw [kAr_set] at hP hD
        have hP : va_P g.1 vwCl (List.flatten [kDW g a_dw0 ra_dw0 V_v34, kAr g at_y3_82 160 (upd f_y3_82 (10 + (7 * x2_82)).toNatClampNeg r34)]) H := hP
        have hD : va_D A (List.flatten [kDW g a_dw0 ra_dw0 V_v34, kAr g at_y3_82 160 (upd f_y3_82 (10 + (7 * x2_82)).toNatClampNeg r34)]) := hD
        refine lv_aload_n hx hb dL_seen_106 rfl (lv_at hl 2 rfl) ?_
        refine lv_iload_n hx hb dL_seen_107 rfl (lv_at hl 0 rfl) ?_
        refine lv_iconst (v := 1) hx hb dL_seen_108 (by decide) ?_
        refine lv_iadd hx hb dL_seen_109 ?_
        refine lv_aload_n hx hb dL_seen_110 rfl (lv_at hl 1 rfl) ?_
        refine lv_iload_n hx hb dL_seen_111 rfl (lv_at hl 3 rfl) ?_
        refine gCi1 (bs := [kDW g a_dw0 ra_dw0 V_v34, kAr g at_y3_82 160 (upd f_y3_82 (10 + (7 * x2_82)).toNatClampNeg r34)]) (wf := (fun v => [kDW g a_dw0 ra_dw0 v])) (gRunVL (As := [.int x2_82]) (rest := [.int ((10 + (7 * x2_82)) + 1), .ref (at_y3_82 0)]) ⟨hx, hb, hml, hown, hts⟩ (gMetL (ctP_higherEnd l hl0 g t a_dw0 ra_dw0 _ V_v34 x2_82 (show wpD_higherEnd x2_82 V_v34 _ from hw))) (cwV 1 hts (goodF gV_X6_higherEnd) rfl rfl rfl (by decide +kernel) ⟨Nat.le_of_ble_eq_true rfl, Nat.le_of_ble_eq_true rfl⟩) hE hN hX hS (gFree (bs := [kDW g a_dw0 ra_dw0 V_v34, kAr g at_y3_82 160 (upd f_y3_82 (10 + (7 * x2_82)).toNatClampNeg r34)]) hD hS hA [0]) (gSub (bs := [kDW g a_dw0 ra_dw0 V_v34, kAr g at_y3_82 160 (upd f_y3_82 (10 + (7 * x2_82)).toNatClampNeg r34)]) hP [0]) (gDSub (bs := [kDW g a_dw0 ra_dw0 V_v34, kAr g at_y3_82 160 (upd f_y3_82 (10 + (7 * x2_82)).toNatClampNeg r34)]) hD [0] rfl) 0 10 rfl rfl rfl rfl rfl hl.1 rfl (lv_room (Nat.le_of_ble_eq_true rfl)) dL_seen_112 ⟨(by show _ ≤ 172; omega), (by show _ ≤ 1186; omega)⟩) hP hD hS hA [0] rfl (fun _ => rfl) rfl (fun r36 V_v36 H locs hw hP hD hS => ?_)
        have hP : va_P g.1 vwCl (List.flatten [kDW g a_dw0 ra_dw0 V_v36, kAr g at_y3_82 160 (upd f_y3_82 (10 + (7 * x2_82)).toNatClampNeg r34)]) H := hP
        have hD : va_D A (List.flatten [kDW g a_dw0 ra_dw0 V_v36, kAr g at_y3_82 160 (upd f_y3_82 (10 + (7 * x2_82)).toNatClampNeg r34)]) := hD
        have h37 := hw.1
        have hw := hw.2
        refine va_iast hx hb hE.1 hP hD hS _ 0 kAr_get rfl h37 dL_seen_115 (fun H locs hP hD hS => ?_)
        rw [kAr_set] at hP hD
        have hP : va_P g.1 vwCl (List.flatten [kDW g a_dw0 ra_dw0 V_v36, kAr g at_y3_82 160 (upd (upd f_y3_82 (10 + (7 * x2_82)).toNatClampNeg r34) ((10 + (7 * x2_82)) + 1).toNatClampNeg r36)]) H := hP
        have hD : va_D A (List.flatten [kDW g a_dw0 ra_dw0 V_v36, kAr g at_y3_82 160 (upd (upd f_y3_82 (10 + (7 * x2_82)).toNatClampNeg r34) ((10 + (7 * x2_82)) + 1).toNatClampNeg r36)]) := hD
        refine lv_aload_n hx hb dL_seen_116 rfl (lv_at hl 2 rfl) ?_
        refine lv_iload_n hx hb dL_seen_117 rfl (lv_at hl 0 rfl) ?_
        refine lv_iconst (v := 2) hx hb dL_seen_118 (by decide) ?_
        refine lv_iadd hx hb dL_seen_119 ?_
        refine lv_aload_n hx hb dL_seen_120 rfl (lv_at hl 1 rfl) ?_
        refine lv_iload_n hx hb dL_seen_121 rfl (lv_at hl 3 rfl) ?_
        refine gCi1 (bs := [kDW g a_dw0 ra_dw0 V_v36, kAr g at_y3_82 160 (upd (upd f_y3_82 (10 + (7 * x2_82)).toNatClampNeg r34) ((10 + (7 * x2_82)) + 1).toNatClampNeg r36)]) (wf := (fun v => [kDW g a_dw0 ra_dw0 v])) (gRunVL (As := [.int x2_82]) (rest := [.int ((10 + (7 * x2_82)) + 2), .ref (at_y3_82 0)]) ⟨hx, hb, hml, hown, hts⟩ (gMetL (ctP_streetClass l hl0 g t a_dw0 ra_dw0 _ V_v36 x2_82 (show wpD_streetClass x2_82 V_v36 _ from hw))) (cwV 1 hts (goodF gV_X6_streetClass) rfl rfl rfl (by decide +kernel) ⟨Nat.le_of_ble_eq_true rfl, Nat.le_of_ble_eq_true rfl⟩) hE hN hX hS (gFree (bs := [kDW g a_dw0 ra_dw0 V_v36, kAr g at_y3_82 160 (upd (upd f_y3_82 (10 + (7 * x2_82)).toNatClampNeg r34) ((10 + (7 * x2_82)) + 1).toNatClampNeg r36)]) hD hS hA [0]) (gSub (bs := [kDW g a_dw0 ra_dw0 V_v36, kAr g at_y3_82 160 (upd (upd f_y3_82 (10 + (7 * x2_82)).toNatClampNeg r34) ((10 + (7 * x2_82)) + 1).toNatClampNeg r36)]) hP [0]) (gDSub (bs := [kDW g a_dw0 ra_dw0 V_v36, kAr g at_y3_82 160 (upd (upd f_y3_82 (10 + (7 * x2_82)).toNatClampNeg r34) ((10 + (7 * x2_82)) + 1).toNatClampNeg r36)]) hD [0] rfl) 0 10 rfl rfl rfl rfl rfl hl.1 rfl (lv_room (Nat.le_of_ble_eq_true rfl)) dL_seen_122 ⟨(by show _ ≤ 172; omega), (by show _ ≤ 1186; omega)⟩) hP hD hS hA [0] rfl (fun _ => rfl) rfl (fun r38 V_v38 H locs hw hP hD hS => ?_)
        have hP : va_P g.1 vwCl (List.flatten [kDW g a_dw0 ra_dw0 V_v38, kAr g at_y3_82 160 (upd (upd f_y3_82 (10 + (7 * x2_82)).toNatClampNeg r34) ((10 + (7 * x2_82)) + 1).toNatClampNeg r36)]) H := hP
        have hD : va_D A (List.flatten [kDW g a_dw0 ra_dw0 V_v38, kAr g at_y3_82 160 (upd (upd f_y3_82 (10 + (7 * x2_82)).toNatClampNeg r34) ((10 + (7 * x2_82)) + 1).toNatClampNeg r36)]) := hD
        have h39 := hw.1
        have hw := hw.2
        refine va_iast hx hb hE.1 hP hD hS _ 0 kAr_get rfl h39 dL_seen_125 (fun H locs hP hD hS => ?_)
        rw [kAr_set] at hP hD
        have hP : va_P g.1 vwCl (List.flatten [kDW g a_dw0 ra_dw0 V_v38, kAr g at_y3_82 160 (upd (upd (upd f_y3_82 (10 + (7 * x2_82)).toNatClampNeg r34) ((10 + (7 * x2_82)) + 1).toNatClampNeg r36) ((10 + (7 * x2_82)) + 2).toNatClampNeg r38)]) H := hP
        have hD : va_D A (List.flatten [kDW g a_dw0 ra_dw0 V_v38, kAr g at_y3_82 160 (upd (upd (upd f_y3_82 (10 + (7 * x2_82)).toNatClampNeg r34) ((10 + (7 * x2_82)) + 1).toNatClampNeg r36) ((10 + (7 * x2_82)) + 2).toNatClampNeg r38)]) := hD
        refine lv_aload_n hx hb dL_seen_126 rfl (lv_at hl 2 rfl) ?_
        refine lv_iload_n hx hb dL_seen_127 rfl (lv_at hl 0 rfl) ?_
        refine lv_iconst (v := 3) hx hb dL_seen_128 (by decide) ?_
        refine lv_iadd hx hb dL_seen_129 ?_
        refine lv_aload_n hx hb dL_seen_130 rfl (lv_at hl 1 rfl) ?_
        refine lv_iload_n hx hb dL_seen_131 rfl (lv_at hl 3 rfl) ?_
        refine gCi1 (bs := [kDW g a_dw0 ra_dw0 V_v38, kAr g at_y3_82 160 (upd (upd (upd f_y3_82 (10 + (7 * x2_82)).toNatClampNeg r34) ((10 + (7 * x2_82)) + 1).toNatClampNeg r36) ((10 + (7 * x2_82)) + 2).toNatClampNeg r38)]) (wf := (fun v => [kDW g a_dw0 ra_dw0 v])) (gRunVL (As := [.int x2_82]) (rest := [.int ((10 + (7 * x2_82)) + 3), .ref (at_y3_82 0)]) ⟨hx, hb, hml, hown, hts⟩ (gMetL (ctP_length l hl0 g t a_dw0 ra_dw0 _ V_v38 x2_82 (show wpD_length x2_82 V_v38 _ from hw))) (cwV 1 hts (goodF gV_X6_length) rfl rfl rfl (by decide +kernel) ⟨Nat.le_of_ble_eq_true rfl, Nat.le_of_ble_eq_true rfl⟩) hE hN hX hS (gFree (bs := [kDW g a_dw0 ra_dw0 V_v38, kAr g at_y3_82 160 (upd (upd (upd f_y3_82 (10 + (7 * x2_82)).toNatClampNeg r34) ((10 + (7 * x2_82)) + 1).toNatClampNeg r36) ((10 + (7 * x2_82)) + 2).toNatClampNeg r38)]) hD hS hA [0]) (gSub (bs := [kDW g a_dw0 ra_dw0 V_v38, kAr g at_y3_82 160 (upd (upd (upd f_y3_82 (10 + (7 * x2_82)).toNatClampNeg r34) ((10 + (7 * x2_82)) + 1).toNatClampNeg r36) ((10 + (7 * x2_82)) + 2).toNatClampNeg r38)]) hP [0]) (gDSub (bs := [kDW g a_dw0 ra_dw0 V_v38, kAr g at_y3_82 160 (upd (upd (upd f_y3_82 (10 + (7 * x2_82)).toNatClampNeg r34) ((10 + (7 * x2_82)) + 1).toNatClampNeg r36) ((10 + (7 * x2_82)) + 2).toNatClampNeg r38)]) hD [0] rfl) 0 10 rfl rfl rfl rfl rfl hl.1 rfl (lv_room (Nat.le_of_ble_eq_true rfl)) dL_seen_132 ⟨(by show _ ≤ 172; omega), (by show _ ≤ 1186; omega)⟩) hP hD hS hA [0] rfl (fun _ => rfl) rfl (fun r40 V_v40 H locs hw hP hD hS => ?_)
        have hP : va_P g.1 vwCl (List.flatten [kDW g a_dw0 ra_dw0 V_v40, kAr g at_y3_82 160 (upd (upd (upd f_y3_82 (10 + (7 * x2_82)).toNatClampNeg r34) ((10 + (7 * x2_82)) + 1).toNatClampNeg r36) ((10 + (7 * x2_82)) + 2).toNatClampNeg r38)]) H := hP
        have hD : va_D A (List.flatten [kDW g a_dw0 ra_dw0 V_v40, kAr g at_y3_82 160 (upd (upd (upd f_y3_82 (10 + (7 * x2_82)).toNatClampNeg r34) ((10 + (7 * x2_82)) + 1).toNatClampNeg r36) ((10 + (7 * x2_82)) + 2).toNatClampNeg r38)]) := hD
        have h41 := hw.1
        have hw := hw.2
        refine va_iast hx hb hE.1 hP hD hS _ 0 kAr_get rfl h41 dL_seen_135 (fun H locs hP hD hS => ?_)
        rw [kAr_set] at hP hD
        have hP : va_P g.1 vwCl (List.flatten [kDW g a_dw0 ra_dw0 V_v40, kAr g at_y3_82 160 (upd (upd (upd (upd f_y3_82 (10 + (7 * x2_82)).toNatClampNeg r34) ((10 + (7 * x2_82)) + 1).toNatClampNeg r36) ((10 + (7 * x2_82)) + 2).toNatClampNeg r38) ((10 + (7 * x2_82)) + 3).toNatClampNeg r40)]) H := hP
        have hD : va_D A (List.flatten [kDW g a_dw0 ra_dw0 V_v40, kAr g at_y3_82 160 (upd (upd (upd (upd f_y3_82 (10 + (7 * x2_82)).toNatClampNeg r34) ((10 + (7 * x2_82)) + 1).toNatClampNeg r36) ((10 + (7 * x2_82)) + 2).toNatClampNeg r38) ((10 + (7 * x2_82)) + 3).toNatClampNeg r40)]) := hD
        refine lv_aload_n hx hb dL_seen_136 rfl (lv_at hl 2 rfl) ?_
        refine lv_iload_n hx hb dL_seen_137 rfl (lv_at hl 0 rfl) ?_
        refine lv_iconst (v := 4) hx hb dL_seen_138 (by decide) ?_
        refine lv_iadd hx hb dL_seen_139 ?_
        refine lv_aload_n hx hb dL_seen_140 rfl (lv_at hl 1 rfl) ?_
        refine lv_iload_n hx hb dL_seen_141 rfl (lv_at hl 3 rfl) ?_
        refine gCi1 (bs := [kDW g a_dw0 ra_dw0 V_v40, kAr g at_y3_82 160 (upd (upd (upd (upd f_y3_82 (10 + (7 * x2_82)).toNatClampNeg r34) ((10 + (7 * x2_82)) + 1).toNatClampNeg r36) ((10 + (7 * x2_82)) + 2).toNatClampNeg r38) ((10 + (7 * x2_82)) + 3).toNatClampNeg r40)]) (wf := (fun v => [kDW g a_dw0 ra_dw0 v])) (gRunVL (As := [.int x2_82]) (rest := [.int ((10 + (7 * x2_82)) + 4), .ref (at_y3_82 0)]) ⟨hx, hb, hml, hown, hts⟩ (gMetL (ctP_depth l hl0 g t a_dw0 ra_dw0 _ V_v40 x2_82 (show wpD_depth x2_82 V_v40 _ from hw))) (cwV 1 hts (goodF gV_X6_depth) rfl rfl rfl (by decide +kernel) ⟨Nat.le_of_ble_eq_true rfl, Nat.le_of_ble_eq_true rfl⟩) hE hN hX hS (gFree (bs := [kDW g a_dw0 ra_dw0 V_v40, kAr g at_y3_82 160 (upd (upd (upd (upd f_y3_82 (10 + (7 * x2_82)).toNatClampNeg r34) ((10 + (7 * x2_82)) + 1).toNatClampNeg r36) ((10 + (7 * x2_82)) + 2).toNatClampNeg r38) ((10 + (7 * x2_82)) + 3).toNatClampNeg r40)]) hD hS hA [0]) (gSub (bs := [kDW g a_dw0 ra_dw0 V_v40, kAr g at_y3_82 160 (upd (upd (upd (upd f_y3_82 (10 + (7 * x2_82)).toNatClampNeg r34) ((10 + (7 * x2_82)) + 1).toNatClampNeg r36) ((10 + (7 * x2_82)) + 2).toNatClampNeg r38) ((10 + (7 * x2_82)) + 3).toNatClampNeg r40)]) hP [0]) (gDSub (bs := [kDW g a_dw0 ra_dw0 V_v40, kAr g at_y3_82 160 (upd (upd (upd (upd f_y3_82 (10 + (7 * x2_82)).toNatClampNeg r34) ((10 + (7 * x2_82)) + 1).toNatClampNeg r36) ((10 + (7 * x2_82)) + 2).toNatClampNeg r38) ((10 + (7 * x2_82)) + 3).toNatClampNeg r40)]) hD [0] rfl) 0 10 rfl rfl rfl rfl rfl hl.1 rfl (lv_room (Nat.le_of_ble_eq_true rfl)) dL_seen_142 ⟨(by show _ ≤ 172; omega), (by show _ ≤ 1186; omega)⟩) hP hD hS hA [0] rfl (fun _ => rfl) rfl (fun r42 V_v42 H locs hw hP hD hS => ?_)
        have hP : va_P g.1 vwCl (List.flatten [kDW g a_dw0 ra_dw0 V_v42, kAr g at_y3_82 160 (upd (upd (upd (upd f_y3_82 (10 + (7 * x2_82)).toNatClampNeg r34) ((10 + (7 * x2_82)) + 1).toNatClampNeg r36) ((10 + (7 * x2_82)) + 2).toNatClampNeg r38) ((10 + (7 * x2_82)) + 3).toNatClampNeg r40)]) H := hP
        have hD : va_D A (List.flatten [kDW g a_dw0 ra_dw0 V_v42, kAr g at_y3_82 160 (upd (upd (upd (upd f_y3_82 (10 + (7 * x2_82)).toNatClampNeg r34) ((10 + (7 * x2_82)) + 1).toNatClampNeg r36) ((10 + (7 * x2_82)) + 2).toNatClampNeg r38) ((10 + (7 * x2_82)) + 3).toNatClampNeg r40)]) := hD
        have h43 := hw.1
        have hw := hw.2
        refine va_iast hx hb hE.1 hP hD hS _ 0 kAr_get rfl h43 dL_seen_145 (fun H locs hP hD hS => ?_)
        rw [kAr_set] at hP hD
        have hP : va_P g.1 vwCl (List.flatten [kDW g a_dw0 ra_dw0 V_v42, kAr g at_y3_82 160 (upd (upd (upd (upd (upd f_y3_82 (10 + (7 * x2_82)).toNatClampNeg r34) ((10 + (7 * x2_82)) + 1).toNatClampNeg r36) ((10 + (7 * x2_82)) + 2).toNatClampNeg r38) ((10 + (7 * x2_82)) + 3).toNatClampNeg r40) ((10 + (7 * x2_82)) + 4).toNatClampNeg r42)]) H := hP
        have hD : va_D A (List.flatten [kDW g a_dw0 ra_dw0 V_v42, kAr g at_y3_82 160 (upd (upd (upd (upd (upd f_y3_82 (10 + (7 * x2_82)).toNatClampNeg r34) ((10 + (7 * x2_82)) + 1).toNatClampNeg r36) ((10 + (7 * x2_82)) + 2).toNatClampNeg r38) ((10 + (7 * x2_82)) + 3).toNatClampNeg r40) ((10 + (7 * x2_82)) + 4).toNatClampNeg r42)]) := hD
        refine lv_aload_n hx hb dL_seen_146 rfl (lv_at hl 2 rfl) ?_
        refine lv_iload_n hx hb dL_seen_147 rfl (lv_at hl 0 rfl) ?_
        refine lv_iconst (v := 5) hx hb dL_seen_148 (by decide) ?_
        refine lv_iadd hx hb dL_seen_149 ?_
        refine lv_aload_n hx hb dL_seen_150 rfl (lv_at hl 1 rfl) ?_
        refine lv_iload_n hx hb dL_seen_151 rfl (lv_at hl 3 rfl) ?_
        refine gCi1 (bs := [kDW g a_dw0 ra_dw0 V_v42, kAr g at_y3_82 160 (upd (upd (upd (upd (upd f_y3_82 (10 + (7 * x2_82)).toNatClampNeg r34) ((10 + (7 * x2_82)) + 1).toNatClampNeg r36) ((10 + (7 * x2_82)) + 2).toNatClampNeg r38) ((10 + (7 * x2_82)) + 3).toNatClampNeg r40) ((10 + (7 * x2_82)) + 4).toNatClampNeg r42)]) (wf := (fun v => [kDW g a_dw0 ra_dw0 v])) (gRunSWL (As := [.ref (a_dw0 0 0), .int x2_82]) (rest := [.int ((10 + (7 * x2_82)) + 5), .ref (at_y3_82 0)]) ⟨hx, hb, hml, hown, hts⟩ (gMetL (ctL_saltMinutes l hl0 g t a_dw0 ra_dw0 _ V_v42 x2_82 hw)) (vx_cwSW 2 hts (goodF gS_L_saltMinutes) rfl rfl rfl (by decide +kernel) ⟨Nat.le_of_ble_eq_true rfl, Nat.le_of_ble_eq_true rfl⟩) hE hN hX hS (gFree (bs := [kDW g a_dw0 ra_dw0 V_v42, kAr g at_y3_82 160 (upd (upd (upd (upd (upd f_y3_82 (10 + (7 * x2_82)).toNatClampNeg r34) ((10 + (7 * x2_82)) + 1).toNatClampNeg r36) ((10 + (7 * x2_82)) + 2).toNatClampNeg r38) ((10 + (7 * x2_82)) + 3).toNatClampNeg r40) ((10 + (7 * x2_82)) + 4).toNatClampNeg r42)]) hD hS hA [0]) (gSub (bs := [kDW g a_dw0 ra_dw0 V_v42, kAr g at_y3_82 160 (upd (upd (upd (upd (upd f_y3_82 (10 + (7 * x2_82)).toNatClampNeg r34) ((10 + (7 * x2_82)) + 1).toNatClampNeg r36) ((10 + (7 * x2_82)) + 2).toNatClampNeg r38) ((10 + (7 * x2_82)) + 3).toNatClampNeg r40) ((10 + (7 * x2_82)) + 4).toNatClampNeg r42)]) hP [0]) (gDSub (bs := [kDW g a_dw0 ra_dw0 V_v42, kAr g at_y3_82 160 (upd (upd (upd (upd (upd f_y3_82 (10 + (7 * x2_82)).toNatClampNeg r34) ((10 + (7 * x2_82)) + 1).toNatClampNeg r36) ((10 + (7 * x2_82)) + 2).toNatClampNeg r38) ((10 + (7 * x2_82)) + 3).toNatClampNeg r40) ((10 + (7 * x2_82)) + 4).toNatClampNeg r42)]) hD [0] rfl) rfl rfl hl.1 rfl (lv_room (Nat.le_of_ble_eq_true rfl)) dL_seen_152 ⟨(by show _ ≤ 172; omega), (by show _ ≤ 1186; omega)⟩) hP hD hS hA [0] rfl (fun _ => rfl) rfl (fun r44 V_v44 H locs hw hP hD hS => ?_)
        have hP : va_P g.1 vwCl (List.flatten [kDW g a_dw0 ra_dw0 V_v44, kAr g at_y3_82 160 (upd (upd (upd (upd (upd f_y3_82 (10 + (7 * x2_82)).toNatClampNeg r34) ((10 + (7 * x2_82)) + 1).toNatClampNeg r36) ((10 + (7 * x2_82)) + 2).toNatClampNeg r38) ((10 + (7 * x2_82)) + 3).toNatClampNeg r40) ((10 + (7 * x2_82)) + 4).toNatClampNeg r42)]) H := hP
        have hD : va_D A (List.flatten [kDW g a_dw0 ra_dw0 V_v44, kAr g at_y3_82 160 (upd (upd (upd (upd (upd f_y3_82 (10 + (7 * x2_82)).toNatClampNeg r34) ((10 + (7 * x2_82)) + 1).toNatClampNeg r36) ((10 + (7 * x2_82)) + 2).toNatClampNeg r38) ((10 + (7 * x2_82)) + 3).toNatClampNeg r40) ((10 + (7 * x2_82)) + 4).toNatClampNeg r42)]) := hD
        have h45 := hw.1
        have hw := hw.2
        refine va_iast hx hb hE.1 hP hD hS _ 0 kAr_get rfl h45 dL_seen_155 (fun H locs hP hD hS => ?_)
        rw [kAr_set] at hP hD
        have hP : va_P g.1 vwCl (List.flatten [kDW g a_dw0 ra_dw0 V_v44, kAr g at_y3_82 160 (upd (upd (upd (upd (upd (upd f_y3_82 (10 + (7 * x2_82)).toNatClampNeg r34) ((10 + (7 * x2_82)) + 1).toNatClampNeg r36) ((10 + (7 * x2_82)) + 2).toNatClampNeg r38) ((10 + (7 * x2_82)) + 3).toNatClampNeg r40) ((10 + (7 * x2_82)) + 4).toNatClampNeg r42) ((10 + (7 * x2_82)) + 5).toNatClampNeg r44)]) H := hP
        have hD : va_D A (List.flatten [kDW g a_dw0 ra_dw0 V_v44, kAr g at_y3_82 160 (upd (upd (upd (upd (upd (upd f_y3_82 (10 + (7 * x2_82)).toNatClampNeg r34) ((10 + (7 * x2_82)) + 1).toNatClampNeg r36) ((10 + (7 * x2_82)) + 2).toNatClampNeg r38) ((10 + (7 * x2_82)) + 3).toNatClampNeg r40) ((10 + (7 * x2_82)) + 4).toNatClampNeg r42) ((10 + (7 * x2_82)) + 5).toNatClampNeg r44)]) := hD
        refine lv_aload_n hx hb dL_seen_156 rfl (lv_at hl 2 rfl) ?_
        refine lv_iload_n hx hb dL_seen_157 rfl (lv_at hl 0 rfl) ?_
        refine lv_bipush (v := 6) hx hb dL_seen_158 (by decide) ?_
        refine lv_iadd hx hb dL_seen_160 ?_
        refine lv_aload_n hx hb dL_seen_161 rfl (lv_at hl 1 rfl) ?_
        refine lv_iload_n hx hb dL_seen_162 rfl (lv_at hl 3 rfl) ?_
        refine gCi1 (bs := [kDW g a_dw0 ra_dw0 V_v44, kAr g at_y3_82 160 (upd (upd (upd (upd (upd (upd f_y3_82 (10 + (7 * x2_82)).toNatClampNeg r34) ((10 + (7 * x2_82)) + 1).toNatClampNeg r36) ((10 + (7 * x2_82)) + 2).toNatClampNeg r38) ((10 + (7 * x2_82)) + 3).toNatClampNeg r40) ((10 + (7 * x2_82)) + 4).toNatClampNeg r42) ((10 + (7 * x2_82)) + 5).toNatClampNeg r44)]) (wf := (fun v => [kDW g a_dw0 ra_dw0 v])) (gRunVL (As := [.int x2_82]) (rest := [.int ((10 + (7 * x2_82)) + 6), .ref (at_y3_82 0)]) ⟨hx, hb, hml, hown, hts⟩ (gMetL (ctP_complaints l hl0 g t a_dw0 ra_dw0 _ V_v44 x2_82 (show wpD_complaints x2_82 V_v44 _ from hw))) (cwV 1 hts (goodF gV_X6_complaints) rfl rfl rfl (by decide +kernel) ⟨Nat.le_of_ble_eq_true rfl, Nat.le_of_ble_eq_true rfl⟩) hE hN hX hS (gFree (bs := [kDW g a_dw0 ra_dw0 V_v44, kAr g at_y3_82 160 (upd (upd (upd (upd (upd (upd f_y3_82 (10 + (7 * x2_82)).toNatClampNeg r34) ((10 + (7 * x2_82)) + 1).toNatClampNeg r36) ((10 + (7 * x2_82)) + 2).toNatClampNeg r38) ((10 + (7 * x2_82)) + 3).toNatClampNeg r40) ((10 + (7 * x2_82)) + 4).toNatClampNeg r42) ((10 + (7 * x2_82)) + 5).toNatClampNeg r44)]) hD hS hA [0]) (gSub (bs := [kDW g a_dw0 ra_dw0 V_v44, kAr g at_y3_82 160 (upd (upd (upd (upd (upd (upd f_y3_82 (10 + (7 * x2_82)).toNatClampNeg r34) ((10 + (7 * x2_82)) + 1).toNatClampNeg r36) ((10 + (7 * x2_82)) + 2).toNatClampNeg r38) ((10 + (7 * x2_82)) + 3).toNatClampNeg r40) ((10 + (7 * x2_82)) + 4).toNatClampNeg r42) ((10 + (7 * x2_82)) + 5).toNatClampNeg r44)]) hP [0]) (gDSub (bs := [kDW g a_dw0 ra_dw0 V_v44, kAr g at_y3_82 160 (upd (upd (upd (upd (upd (upd f_y3_82 (10 + (7 * x2_82)).toNatClampNeg r34) ((10 + (7 * x2_82)) + 1).toNatClampNeg r36) ((10 + (7 * x2_82)) + 2).toNatClampNeg r38) ((10 + (7 * x2_82)) + 3).toNatClampNeg r40) ((10 + (7 * x2_82)) + 4).toNatClampNeg r42) ((10 + (7 * x2_82)) + 5).toNatClampNeg r44)]) hD [0] rfl) 0 10 rfl rfl rfl rfl rfl hl.1 rfl (lv_room (Nat.le_of_ble_eq_true rfl)) dL_seen_163 ⟨(by show _ ≤ 172; omega), (by show _ ≤ 1186; omega)⟩) hP hD hS hA [0] rfl (fun _ => rfl) rfl (fun r46 V_v46 H locs hw hP hD hS => ?_)
        have hP : va_P g.1 vwCl (List.flatten [kDW g a_dw0 ra_dw0 V_v46, kAr g at_y3_82 160 (upd (upd (upd (upd (upd (upd f_y3_82 (10 + (7 * x2_82)).toNatClampNeg r34) ((10 + (7 * x2_82)) + 1).toNatClampNeg r36) ((10 + (7 * x2_82)) + 2).toNatClampNeg r38) ((10 + (7 * x2_82)) + 3).toNatClampNeg r40) ((10 + (7 * x2_82)) + 4).toNatClampNeg r42) ((10 + (7 * x2_82)) + 5).toNatClampNeg r44)]) H := hP
        have hD : va_D A (List.flatten [kDW g a_dw0 ra_dw0 V_v46, kAr g at_y3_82 160 (upd (upd (upd (upd (upd (upd f_y3_82 (10 + (7 * x2_82)).toNatClampNeg r34) ((10 + (7 * x2_82)) + 1).toNatClampNeg r36) ((10 + (7 * x2_82)) + 2).toNatClampNeg r38) ((10 + (7 * x2_82)) + 3).toNatClampNeg r40) ((10 + (7 * x2_82)) + 4).toNatClampNeg r42) ((10 + (7 * x2_82)) + 5).toNatClampNeg r44)]) := hD
        have h47 := hw.1
        have hw := hw.2
        refine va_iast hx hb hE.1 hP hD hS _ 0 kAr_get rfl h47 dL_seen_166 (fun H locs hP hD hS => ?_)
        rw [kAr_set] at hP hD
        have hP : va_P g.1 vwCl (List.flatten [kDW g a_dw0 ra_dw0 V_v46, kAr g at_y3_82 160 (upd (upd (upd (upd (upd (upd (upd f_y3_82 (10 + (7 * x2_82)).toNatClampNeg r34) ((10 + (7 * x2_82)) + 1).toNatClampNeg r36) ((10 + (7 * x2_82)) + 2).toNatClampNeg r38) ((10 + (7 * x2_82)) + 3).toNatClampNeg r40) ((10 + (7 * x2_82)) + 4).toNatClampNeg r42) ((10 + (7 * x2_82)) + 5).toNatClampNeg r44) ((10 + (7 * x2_82)) + 6).toNatClampNeg r46)]) H := hP
        have hD : va_D A (List.flatten [kDW g a_dw0 ra_dw0 V_v46, kAr g at_y3_82 160 (upd (upd (upd (upd (upd (upd (upd f_y3_82 (10 + (7 * x2_82)).toNatClampNeg r34) ((10 + (7 * x2_82)) + 1).toNatClampNeg r36) ((10 + (7 * x2_82)) + 2).toNatClampNeg r38) ((10 + (7 * x2_82)) + 3).toNatClampNeg r40) ((10 + (7 * x2_82)) + 4).toNatClampNeg r42) ((10 + (7 * x2_82)) + 5).toNatClampNeg r44) ((10 + (7 * x2_82)) + 6).toNatClampNeg r46)]) := hD
        refine lv_iinc (v := (x2_82 + 1)) (lv' := [(2, .int (x2_82 + 1)), (3, .int (10 + (7 * x2_82))), (0, .ref (a_dw0 0 0)), (1, .ref (at_y3_82 0))]) hx hb dL_seen_167 hl (k := 3) rfl rfl (by decide) rfl (fun ls hl => ?_)
        refine lv_goto (tgt := 82) hx hb dL_seen_170 (by decide) ?_
        exact ih_82 (x2_82 + 1) V_v46 at_y3_82 (upd (upd (upd (upd (upd (upd (upd f_y3_82 (10 + (7 * x2_82)).toNatClampNeg r34) ((10 + (7 * x2_82)) + 1).toNatClampNeg r36) ((10 + (7 * x2_82)) + 2).toNatClampNeg r38) ((10 + (7 * x2_82)) + 3).toNatClampNeg r40) ((10 + (7 * x2_82)) + 4).toNatClampNeg r42) ((10 + (7 * x2_82)) + 5).toNatClampNeg r44) ((10 + (7 * x2_82)) + 6).toNatClampNeg r46) _ _ _ _ _ (by omega) (by omega) hw hP hD hS (lv_sub hl [2, 3, 0] rfl)
  refine lv_sipush (v := 160) hx hb dL_seen_0 (by decide) ?_
  refine va_newa (atype := .int) (N' := 160) (a0 := (160, .inl (fun _ => 0))) hx hb (hts _ (lwM tw619)) rfl hE.1 hP hD hS hA (fun _ => rfl) (by decide) (by decide) (Nat.le_of_ble_eq_true rfl) (by show _ ≤ 172; omega) (by show _ ≤ 1186; omega) dL_seen_3 (fun q3 cA H hK hP hD hS => ?_)
  have hcA : cA = g.2 0 := gByte hE hK (k := 0) rfl Iff.rfl Iff.rfl
  subst hcA
  have hP := gApp hP
  have hD := gAppD hD
  obtain ⟨at_y3, hat3⟩ : ∃ at_ : Nat → Nat, at_ 0 = q3 := ⟨fun _ => q3, rfl⟩
  subst hat3
  have hP : va_P g.1 vwCl (List.flatten [kDW g a_dw0 ra_dw0 V_dw0, kAr g at_y3 160 (fun _ => 0)]) H := hP
  have hD : va_D A (List.flatten [kDW g a_dw0 ra_dw0 V_dw0, kAr g at_y3 160 (fun _ => 0)]) := hD
  have hw := hw at_y3
  refine lv_astore_n (lv' := [(1, .ref (at_y3 0)), (0, .ref (a_dw0 0 0))]) hx hb dL_seen_5 rfl hl (by decide) rfl (fun ls hl => ?_)
  refine lv_aload_n hx hb dL_seen_6 rfl (lv_at hl 0 rfl) ?_
  refine lv_iconst (v := 0) hx hb dL_seen_7 (by decide) ?_
  refine lv_aload_n hx hb dL_seen_8 rfl (lv_at hl 1 rfl) ?_
  refine gCi1 (bs := [kDW g a_dw0 ra_dw0 V_dw0, kAr g at_y3 160 (fun _ => 0)]) (wf := (fun v => [kDW g a_dw0 ra_dw0 v])) (gRunVL (As := []) (rest := [.int 0, .ref (at_y3 0)]) ⟨hx, hb, hml, hown, hts⟩ (gMetL (ctP_time l hl0 g t a_dw0 ra_dw0 _ V_dw0 hw)) (cwV 0 hts (goodF gV_X6_time) rfl rfl rfl (by decide +kernel) ⟨Nat.le_of_ble_eq_true rfl, Nat.le_of_ble_eq_true rfl⟩) hE hN hX hS (gFree (bs := [kDW g a_dw0 ra_dw0 V_dw0, kAr g at_y3 160 (fun _ => 0)]) hD hS hA [0]) (gSub (bs := [kDW g a_dw0 ra_dw0 V_dw0, kAr g at_y3 160 (fun _ => 0)]) hP [0]) (gDSub (bs := [kDW g a_dw0 ra_dw0 V_dw0, kAr g at_y3 160 (fun _ => 0)]) hD [0] rfl) 0 10 rfl rfl rfl rfl rfl hl.1 rfl (lv_room (Nat.le_of_ble_eq_true rfl)) dL_seen_9 ⟨(by show _ ≤ 172; omega), (by show _ ≤ 1186; omega)⟩) hP hD hS hA [0] rfl (fun _ => rfl) rfl (fun r1 V_v1 H locs hw hP hD hS => ?_)
  have hP : va_P g.1 vwCl (List.flatten [kDW g a_dw0 ra_dw0 V_v1, kAr g at_y3 160 (fun _ => 0)]) H := hP
  have hD : va_D A (List.flatten [kDW g a_dw0 ra_dw0 V_v1, kAr g at_y3 160 (fun _ => 0)]) := hD
  have h2 := hw.1
  have hw := hw.2
  refine va_iast hx hb hE.1 hP hD hS _ 0 kAr_get rfl h2 dL_seen_12 (fun H locs hP hD hS => ?_)
  rw [kAr_set] at hP hD
  have hP : va_P g.1 vwCl (List.flatten [kDW g a_dw0 ra_dw0 V_v1, kAr g at_y3 160 (upd (fun _ => 0) (0 : Int32).toNatClampNeg r1)]) H := hP
  have hD : va_D A (List.flatten [kDW g a_dw0 ra_dw0 V_v1, kAr g at_y3 160 (upd (fun _ => 0) (0 : Int32).toNatClampNeg r1)]) := hD
  refine lv_aload_n hx hb dL_seen_13 rfl (lv_at hl 0 rfl) ?_
  refine lv_iconst (v := 1) hx hb dL_seen_14 (by decide) ?_
  refine lv_aload_n hx hb dL_seen_15 rfl (lv_at hl 1 rfl) ?_
  refine gCi1 (bs := [kDW g a_dw0 ra_dw0 V_v1, kAr g at_y3 160 (upd (fun _ => 0) (0 : Int32).toNatClampNeg r1)]) (wf := (fun v => [kDW g a_dw0 ra_dw0 v])) (gRunVL (As := []) (rest := [.int 1, .ref (at_y3 0)]) ⟨hx, hb, hml, hown, hts⟩ (gMetL (ctP_streetCount l hl0 g t a_dw0 ra_dw0 _ V_v1 hw)) (cwV 0 hts (goodF gV_X6_streetCount) rfl rfl rfl (by decide +kernel) ⟨Nat.le_of_ble_eq_true rfl, Nat.le_of_ble_eq_true rfl⟩) hE hN hX hS (gFree (bs := [kDW g a_dw0 ra_dw0 V_v1, kAr g at_y3 160 (upd (fun _ => 0) (0 : Int32).toNatClampNeg r1)]) hD hS hA [0]) (gSub (bs := [kDW g a_dw0 ra_dw0 V_v1, kAr g at_y3 160 (upd (fun _ => 0) (0 : Int32).toNatClampNeg r1)]) hP [0]) (gDSub (bs := [kDW g a_dw0 ra_dw0 V_v1, kAr g at_y3 160 (upd (fun _ => 0) (0 : Int32).toNatClampNeg r1)]) hD [0] rfl) 0 10 rfl rfl rfl rfl rfl hl.1 rfl (lv_room (Nat.le_of_ble_eq_true rfl)) dL_seen_16 ⟨(by show _ ≤ 172; omega), (by show _ ≤ 1186; omega)⟩) hP hD hS hA [0] rfl (fun _ => rfl) rfl (fun r3 V_v3 H locs hw hP hD hS => ?_)
  have hP : va_P g.1 vwCl (List.flatten [kDW g a_dw0 ra_dw0 V_v3, kAr g at_y3 160 (upd (fun _ => 0) (0 : Int32).toNatClampNeg r1)]) H := hP
  have hD : va_D A (List.flatten [kDW g a_dw0 ra_dw0 V_v3, kAr g at_y3 160 (upd (fun _ => 0) (0 : Int32).toNatClampNeg r1)]) := hD
  have h4 := hw.1
  have hw := hw.2
  refine va_iast hx hb hE.1 hP hD hS _ 0 kAr_get rfl h4 dL_seen_19 (fun H locs hP hD hS => ?_)
  rw [kAr_set] at hP hD
  have hP : va_P g.1 vwCl (List.flatten [kDW g a_dw0 ra_dw0 V_v3, kAr g at_y3 160 (upd (upd (fun _ => 0) (0 : Int32).toNatClampNeg r1) (1 : Int32).toNatClampNeg r3)]) H := hP
  have hD : va_D A (List.flatten [kDW g a_dw0 ra_dw0 V_v3, kAr g at_y3 160 (upd (upd (fun _ => 0) (0 : Int32).toNatClampNeg r1) (1 : Int32).toNatClampNeg r3)]) := hD
  refine lv_aload_n hx hb dL_seen_20 rfl (lv_at hl 0 rfl) ?_
  refine lv_iconst (v := 2) hx hb dL_seen_21 (by decide) ?_
  refine lv_aload_n hx hb dL_seen_22 rfl (lv_at hl 1 rfl) ?_
  refine gCi1 (bs := [kDW g a_dw0 ra_dw0 V_v3, kAr g at_y3 160 (upd (upd (fun _ => 0) (0 : Int32).toNatClampNeg r1) (1 : Int32).toNatClampNeg r3)]) (wf := (fun v => [kDW g a_dw0 ra_dw0 v])) (gRunVL (As := []) (rest := [.int 2, .ref (at_y3 0)]) ⟨hx, hb, hml, hown, hts⟩ (gMetL (ctP_ploughCount l hl0 g t a_dw0 ra_dw0 _ V_v3 hw)) (cwV 0 hts (goodF gV_X6_ploughCount) rfl rfl rfl (by decide +kernel) ⟨Nat.le_of_ble_eq_true rfl, Nat.le_of_ble_eq_true rfl⟩) hE hN hX hS (gFree (bs := [kDW g a_dw0 ra_dw0 V_v3, kAr g at_y3 160 (upd (upd (fun _ => 0) (0 : Int32).toNatClampNeg r1) (1 : Int32).toNatClampNeg r3)]) hD hS hA [0]) (gSub (bs := [kDW g a_dw0 ra_dw0 V_v3, kAr g at_y3 160 (upd (upd (fun _ => 0) (0 : Int32).toNatClampNeg r1) (1 : Int32).toNatClampNeg r3)]) hP [0]) (gDSub (bs := [kDW g a_dw0 ra_dw0 V_v3, kAr g at_y3 160 (upd (upd (fun _ => 0) (0 : Int32).toNatClampNeg r1) (1 : Int32).toNatClampNeg r3)]) hD [0] rfl) 0 10 rfl rfl rfl rfl rfl hl.1 rfl (lv_room (Nat.le_of_ble_eq_true rfl)) dL_seen_23 ⟨(by show _ ≤ 172; omega), (by show _ ≤ 1186; omega)⟩) hP hD hS hA [0] rfl (fun _ => rfl) rfl (fun r5 V_v5 H locs hw hP hD hS => ?_)
  have hP : va_P g.1 vwCl (List.flatten [kDW g a_dw0 ra_dw0 V_v5, kAr g at_y3 160 (upd (upd (fun _ => 0) (0 : Int32).toNatClampNeg r1) (1 : Int32).toNatClampNeg r3)]) H := hP
  have hD : va_D A (List.flatten [kDW g a_dw0 ra_dw0 V_v5, kAr g at_y3 160 (upd (upd (fun _ => 0) (0 : Int32).toNatClampNeg r1) (1 : Int32).toNatClampNeg r3)]) := hD
  have h6 := hw.1
  have hw := hw.2
  refine va_iast hx hb hE.1 hP hD hS _ 0 kAr_get rfl h6 dL_seen_26 (fun H locs hP hD hS => ?_)
  rw [kAr_set] at hP hD
  have hP : va_P g.1 vwCl (List.flatten [kDW g a_dw0 ra_dw0 V_v5, kAr g at_y3 160 (upd (upd (upd (fun _ => 0) (0 : Int32).toNatClampNeg r1) (1 : Int32).toNatClampNeg r3) (2 : Int32).toNatClampNeg r5)]) H := hP
  have hD : va_D A (List.flatten [kDW g a_dw0 ra_dw0 V_v5, kAr g at_y3 160 (upd (upd (upd (fun _ => 0) (0 : Int32).toNatClampNeg r1) (1 : Int32).toNatClampNeg r3) (2 : Int32).toNatClampNeg r5)]) := hD
  refine lv_aload_n hx hb dL_seen_27 rfl (lv_at hl 0 rfl) ?_
  refine lv_iconst (v := 3) hx hb dL_seen_28 (by decide) ?_
  refine lv_aload_n hx hb dL_seen_29 rfl (lv_at hl 1 rfl) ?_
  refine gCi1 (bs := [kDW g a_dw0 ra_dw0 V_v5, kAr g at_y3 160 (upd (upd (upd (fun _ => 0) (0 : Int32).toNatClampNeg r1) (1 : Int32).toNatClampNeg r3) (2 : Int32).toNatClampNeg r5)]) (wf := (fun v => [kDW g a_dw0 ra_dw0 v])) (gRunVL (As := []) (rest := [.int 3, .ref (at_y3 0)]) ⟨hx, hb, hml, hown, hts⟩ (gMetL (ctP_saltStore l hl0 g t a_dw0 ra_dw0 _ V_v5 hw)) (cwV 0 hts (goodF gV_X6_saltStore) rfl rfl rfl (by decide +kernel) ⟨Nat.le_of_ble_eq_true rfl, Nat.le_of_ble_eq_true rfl⟩) hE hN hX hS (gFree (bs := [kDW g a_dw0 ra_dw0 V_v5, kAr g at_y3 160 (upd (upd (upd (fun _ => 0) (0 : Int32).toNatClampNeg r1) (1 : Int32).toNatClampNeg r3) (2 : Int32).toNatClampNeg r5)]) hD hS hA [0]) (gSub (bs := [kDW g a_dw0 ra_dw0 V_v5, kAr g at_y3 160 (upd (upd (upd (fun _ => 0) (0 : Int32).toNatClampNeg r1) (1 : Int32).toNatClampNeg r3) (2 : Int32).toNatClampNeg r5)]) hP [0]) (gDSub (bs := [kDW g a_dw0 ra_dw0 V_v5, kAr g at_y3 160 (upd (upd (upd (fun _ => 0) (0 : Int32).toNatClampNeg r1) (1 : Int32).toNatClampNeg r3) (2 : Int32).toNatClampNeg r5)]) hD [0] rfl) 0 10 rfl rfl rfl rfl rfl hl.1 rfl (lv_room (Nat.le_of_ble_eq_true rfl)) dL_seen_30 ⟨(by show _ ≤ 172; omega), (by show _ ≤ 1186; omega)⟩) hP hD hS hA [0] rfl (fun _ => rfl) rfl (fun r7 V_v7 H locs hw hP hD hS => ?_)
  have hP : va_P g.1 vwCl (List.flatten [kDW g a_dw0 ra_dw0 V_v7, kAr g at_y3 160 (upd (upd (upd (fun _ => 0) (0 : Int32).toNatClampNeg r1) (1 : Int32).toNatClampNeg r3) (2 : Int32).toNatClampNeg r5)]) H := hP
  have hD : va_D A (List.flatten [kDW g a_dw0 ra_dw0 V_v7, kAr g at_y3 160 (upd (upd (upd (fun _ => 0) (0 : Int32).toNatClampNeg r1) (1 : Int32).toNatClampNeg r3) (2 : Int32).toNatClampNeg r5)]) := hD
  have h8 := hw.1
  have hw := hw.2
  refine va_iast hx hb hE.1 hP hD hS _ 0 kAr_get rfl h8 dL_seen_33 (fun H locs hP hD hS => ?_)
  rw [kAr_set] at hP hD
  have hP : va_P g.1 vwCl (List.flatten [kDW g a_dw0 ra_dw0 V_v7, kAr g at_y3 160 (upd (upd (upd (upd (fun _ => 0) (0 : Int32).toNatClampNeg r1) (1 : Int32).toNatClampNeg r3) (2 : Int32).toNatClampNeg r5) (3 : Int32).toNatClampNeg r7)]) H := hP
  have hD : va_D A (List.flatten [kDW g a_dw0 ra_dw0 V_v7, kAr g at_y3 160 (upd (upd (upd (upd (fun _ => 0) (0 : Int32).toNatClampNeg r1) (1 : Int32).toNatClampNeg r3) (2 : Int32).toNatClampNeg r5) (3 : Int32).toNatClampNeg r7)]) := hD
  refine lv_aload_n hx hb dL_seen_34 rfl (lv_at hl 0 rfl) ?_
  refine lv_iconst (v := 4) hx hb dL_seen_35 (by decide) ?_
  refine lv_aload_n hx hb dL_seen_36 rfl (lv_at hl 1 rfl) ?_
  refine gCi1 (bs := [kDW g a_dw0 ra_dw0 V_v7, kAr g at_y3 160 (upd (upd (upd (upd (fun _ => 0) (0 : Int32).toNatClampNeg r1) (1 : Int32).toNatClampNeg r3) (2 : Int32).toNatClampNeg r5) (3 : Int32).toNatClampNeg r7)]) (wf := (fun v => [kDW g a_dw0 ra_dw0 v])) (gRunVL (As := []) (rest := [.int 4, .ref (at_y3 0)]) ⟨hx, hb, hml, hown, hts⟩ (gMetL (ctP_snowfall l hl0 g t a_dw0 ra_dw0 _ V_v7 hw)) (cwV 0 hts (goodF gV_X6_snowfall) rfl rfl rfl (by decide +kernel) ⟨Nat.le_of_ble_eq_true rfl, Nat.le_of_ble_eq_true rfl⟩) hE hN hX hS (gFree (bs := [kDW g a_dw0 ra_dw0 V_v7, kAr g at_y3 160 (upd (upd (upd (upd (fun _ => 0) (0 : Int32).toNatClampNeg r1) (1 : Int32).toNatClampNeg r3) (2 : Int32).toNatClampNeg r5) (3 : Int32).toNatClampNeg r7)]) hD hS hA [0]) (gSub (bs := [kDW g a_dw0 ra_dw0 V_v7, kAr g at_y3 160 (upd (upd (upd (upd (fun _ => 0) (0 : Int32).toNatClampNeg r1) (1 : Int32).toNatClampNeg r3) (2 : Int32).toNatClampNeg r5) (3 : Int32).toNatClampNeg r7)]) hP [0]) (gDSub (bs := [kDW g a_dw0 ra_dw0 V_v7, kAr g at_y3 160 (upd (upd (upd (upd (fun _ => 0) (0 : Int32).toNatClampNeg r1) (1 : Int32).toNatClampNeg r3) (2 : Int32).toNatClampNeg r5) (3 : Int32).toNatClampNeg r7)]) hD [0] rfl) 0 10 rfl rfl rfl rfl rfl hl.1 rfl (lv_room (Nat.le_of_ble_eq_true rfl)) dL_seen_37 ⟨(by show _ ≤ 172; omega), (by show _ ≤ 1186; omega)⟩) hP hD hS hA [0] rfl (fun _ => rfl) rfl (fun r9 V_v9 H locs hw hP hD hS => ?_)
  have hP : va_P g.1 vwCl (List.flatten [kDW g a_dw0 ra_dw0 V_v9, kAr g at_y3 160 (upd (upd (upd (upd (fun _ => 0) (0 : Int32).toNatClampNeg r1) (1 : Int32).toNatClampNeg r3) (2 : Int32).toNatClampNeg r5) (3 : Int32).toNatClampNeg r7)]) H := hP
  have hD : va_D A (List.flatten [kDW g a_dw0 ra_dw0 V_v9, kAr g at_y3 160 (upd (upd (upd (upd (fun _ => 0) (0 : Int32).toNatClampNeg r1) (1 : Int32).toNatClampNeg r3) (2 : Int32).toNatClampNeg r5) (3 : Int32).toNatClampNeg r7)]) := hD
  have h10 := hw.1
  have hw := hw.2
  refine va_iast hx hb hE.1 hP hD hS _ 0 kAr_get rfl h10 dL_seen_40 (fun H locs hP hD hS => ?_)
  rw [kAr_set] at hP hD
  have hP : va_P g.1 vwCl (List.flatten [kDW g a_dw0 ra_dw0 V_v9, kAr g at_y3 160 (upd (upd (upd (upd (upd (fun _ => 0) (0 : Int32).toNatClampNeg r1) (1 : Int32).toNatClampNeg r3) (2 : Int32).toNatClampNeg r5) (3 : Int32).toNatClampNeg r7) (4 : Int32).toNatClampNeg r9)]) H := hP
  have hD : va_D A (List.flatten [kDW g a_dw0 ra_dw0 V_v9, kAr g at_y3 160 (upd (upd (upd (upd (upd (fun _ => 0) (0 : Int32).toNatClampNeg r1) (1 : Int32).toNatClampNeg r3) (2 : Int32).toNatClampNeg r5) (3 : Int32).toNatClampNeg r7) (4 : Int32).toNatClampNeg r9)]) := hD
  refine lv_aload_n hx hb dL_seen_41 rfl (lv_at hl 0 rfl) ?_
  refine lv_iconst (v := 5) hx hb dL_seen_42 (by decide) ?_
  refine lv_aload_n hx hb dL_seen_43 rfl (lv_at hl 1 rfl) ?_
  refine gCi1 (bs := [kDW g a_dw0 ra_dw0 V_v9, kAr g at_y3 160 (upd (upd (upd (upd (upd (fun _ => 0) (0 : Int32).toNatClampNeg r1) (1 : Int32).toNatClampNeg r3) (2 : Int32).toNatClampNeg r5) (3 : Int32).toNatClampNeg r7) (4 : Int32).toNatClampNeg r9)]) (wf := (fun v => [kDW g a_dw0 ra_dw0 v])) (gRunVL (As := []) (rest := [.int 5, .ref (at_y3 0)]) ⟨hx, hb, hml, hown, hts⟩ (gMetL (ctP_wind l hl0 g t a_dw0 ra_dw0 _ V_v9 hw)) (cwV 0 hts (goodF gV_X6_wind) rfl rfl rfl (by decide +kernel) ⟨Nat.le_of_ble_eq_true rfl, Nat.le_of_ble_eq_true rfl⟩) hE hN hX hS (gFree (bs := [kDW g a_dw0 ra_dw0 V_v9, kAr g at_y3 160 (upd (upd (upd (upd (upd (fun _ => 0) (0 : Int32).toNatClampNeg r1) (1 : Int32).toNatClampNeg r3) (2 : Int32).toNatClampNeg r5) (3 : Int32).toNatClampNeg r7) (4 : Int32).toNatClampNeg r9)]) hD hS hA [0]) (gSub (bs := [kDW g a_dw0 ra_dw0 V_v9, kAr g at_y3 160 (upd (upd (upd (upd (upd (fun _ => 0) (0 : Int32).toNatClampNeg r1) (1 : Int32).toNatClampNeg r3) (2 : Int32).toNatClampNeg r5) (3 : Int32).toNatClampNeg r7) (4 : Int32).toNatClampNeg r9)]) hP [0]) (gDSub (bs := [kDW g a_dw0 ra_dw0 V_v9, kAr g at_y3 160 (upd (upd (upd (upd (upd (fun _ => 0) (0 : Int32).toNatClampNeg r1) (1 : Int32).toNatClampNeg r3) (2 : Int32).toNatClampNeg r5) (3 : Int32).toNatClampNeg r7) (4 : Int32).toNatClampNeg r9)]) hD [0] rfl) 0 10 rfl rfl rfl rfl rfl hl.1 rfl (lv_room (Nat.le_of_ble_eq_true rfl)) dL_seen_44 ⟨(by show _ ≤ 172; omega), (by show _ ≤ 1186; omega)⟩) hP hD hS hA [0] rfl (fun _ => rfl) rfl (fun r11 V_v11 H locs hw hP hD hS => ?_)
  have hP : va_P g.1 vwCl (List.flatten [kDW g a_dw0 ra_dw0 V_v11, kAr g at_y3 160 (upd (upd (upd (upd (upd (fun _ => 0) (0 : Int32).toNatClampNeg r1) (1 : Int32).toNatClampNeg r3) (2 : Int32).toNatClampNeg r5) (3 : Int32).toNatClampNeg r7) (4 : Int32).toNatClampNeg r9)]) H := hP
  have hD : va_D A (List.flatten [kDW g a_dw0 ra_dw0 V_v11, kAr g at_y3 160 (upd (upd (upd (upd (upd (fun _ => 0) (0 : Int32).toNatClampNeg r1) (1 : Int32).toNatClampNeg r3) (2 : Int32).toNatClampNeg r5) (3 : Int32).toNatClampNeg r7) (4 : Int32).toNatClampNeg r9)]) := hD
  have h12 := hw.1
  have hw := hw.2
  refine va_iast hx hb hE.1 hP hD hS _ 0 kAr_get rfl h12 dL_seen_47 (fun H locs hP hD hS => ?_)
  rw [kAr_set] at hP hD
  have hP : va_P g.1 vwCl (List.flatten [kDW g a_dw0 ra_dw0 V_v11, kAr g at_y3 160 (upd (upd (upd (upd (upd (upd (fun _ => 0) (0 : Int32).toNatClampNeg r1) (1 : Int32).toNatClampNeg r3) (2 : Int32).toNatClampNeg r5) (3 : Int32).toNatClampNeg r7) (4 : Int32).toNatClampNeg r9) (5 : Int32).toNatClampNeg r11)]) H := hP
  have hD : va_D A (List.flatten [kDW g a_dw0 ra_dw0 V_v11, kAr g at_y3 160 (upd (upd (upd (upd (upd (upd (fun _ => 0) (0 : Int32).toNatClampNeg r1) (1 : Int32).toNatClampNeg r3) (2 : Int32).toNatClampNeg r5) (3 : Int32).toNatClampNeg r7) (4 : Int32).toNatClampNeg r9) (5 : Int32).toNatClampNeg r11)]) := hD
  refine lv_aload_n hx hb dL_seen_48 rfl (lv_at hl 0 rfl) ?_
  refine lv_bipush (v := 6) hx hb dL_seen_49 (by decide) ?_
  refine lv_aload_n hx hb dL_seen_51 rfl (lv_at hl 1 rfl) ?_
  refine gCi1 (bs := [kDW g a_dw0 ra_dw0 V_v11, kAr g at_y3 160 (upd (upd (upd (upd (upd (upd (fun _ => 0) (0 : Int32).toNatClampNeg r1) (1 : Int32).toNatClampNeg r3) (2 : Int32).toNatClampNeg r5) (3 : Int32).toNatClampNeg r7) (4 : Int32).toNatClampNeg r9) (5 : Int32).toNatClampNeg r11)]) (wf := (fun v => [kDW g a_dw0 ra_dw0 v])) (gRunVL (As := []) (rest := [.int 6, .ref (at_y3 0)]) ⟨hx, hb, hml, hown, hts⟩ (gMetL (ctP_clearedTotal l hl0 g t a_dw0 ra_dw0 _ V_v11 hw)) (cwV 0 hts (goodF gV_X6_clearedTotal) rfl rfl rfl (by decide +kernel) ⟨Nat.le_of_ble_eq_true rfl, Nat.le_of_ble_eq_true rfl⟩) hE hN hX hS (gFree (bs := [kDW g a_dw0 ra_dw0 V_v11, kAr g at_y3 160 (upd (upd (upd (upd (upd (upd (fun _ => 0) (0 : Int32).toNatClampNeg r1) (1 : Int32).toNatClampNeg r3) (2 : Int32).toNatClampNeg r5) (3 : Int32).toNatClampNeg r7) (4 : Int32).toNatClampNeg r9) (5 : Int32).toNatClampNeg r11)]) hD hS hA [0]) (gSub (bs := [kDW g a_dw0 ra_dw0 V_v11, kAr g at_y3 160 (upd (upd (upd (upd (upd (upd (fun _ => 0) (0 : Int32).toNatClampNeg r1) (1 : Int32).toNatClampNeg r3) (2 : Int32).toNatClampNeg r5) (3 : Int32).toNatClampNeg r7) (4 : Int32).toNatClampNeg r9) (5 : Int32).toNatClampNeg r11)]) hP [0]) (gDSub (bs := [kDW g a_dw0 ra_dw0 V_v11, kAr g at_y3 160 (upd (upd (upd (upd (upd (upd (fun _ => 0) (0 : Int32).toNatClampNeg r1) (1 : Int32).toNatClampNeg r3) (2 : Int32).toNatClampNeg r5) (3 : Int32).toNatClampNeg r7) (4 : Int32).toNatClampNeg r9) (5 : Int32).toNatClampNeg r11)]) hD [0] rfl) 0 10 rfl rfl rfl rfl rfl hl.1 rfl (lv_room (Nat.le_of_ble_eq_true rfl)) dL_seen_52 ⟨(by show _ ≤ 172; omega), (by show _ ≤ 1186; omega)⟩) hP hD hS hA [0] rfl (fun _ => rfl) rfl (fun r13 V_v13 H locs hw hP hD hS => ?_)
  have hP : va_P g.1 vwCl (List.flatten [kDW g a_dw0 ra_dw0 V_v13, kAr g at_y3 160 (upd (upd (upd (upd (upd (upd (fun _ => 0) (0 : Int32).toNatClampNeg r1) (1 : Int32).toNatClampNeg r3) (2 : Int32).toNatClampNeg r5) (3 : Int32).toNatClampNeg r7) (4 : Int32).toNatClampNeg r9) (5 : Int32).toNatClampNeg r11)]) H := hP
  have hD : va_D A (List.flatten [kDW g a_dw0 ra_dw0 V_v13, kAr g at_y3 160 (upd (upd (upd (upd (upd (upd (fun _ => 0) (0 : Int32).toNatClampNeg r1) (1 : Int32).toNatClampNeg r3) (2 : Int32).toNatClampNeg r5) (3 : Int32).toNatClampNeg r7) (4 : Int32).toNatClampNeg r9) (5 : Int32).toNatClampNeg r11)]) := hD
  have h14 := hw.1
  have hw := hw.2
  refine va_iast hx hb hE.1 hP hD hS _ 0 kAr_get rfl h14 dL_seen_55 (fun H locs hP hD hS => ?_)
  rw [kAr_set] at hP hD
  have hP : va_P g.1 vwCl (List.flatten [kDW g a_dw0 ra_dw0 V_v13, kAr g at_y3 160 (upd (upd (upd (upd (upd (upd (upd (fun _ => 0) (0 : Int32).toNatClampNeg r1) (1 : Int32).toNatClampNeg r3) (2 : Int32).toNatClampNeg r5) (3 : Int32).toNatClampNeg r7) (4 : Int32).toNatClampNeg r9) (5 : Int32).toNatClampNeg r11) (6 : Int32).toNatClampNeg r13)]) H := hP
  have hD : va_D A (List.flatten [kDW g a_dw0 ra_dw0 V_v13, kAr g at_y3 160 (upd (upd (upd (upd (upd (upd (upd (fun _ => 0) (0 : Int32).toNatClampNeg r1) (1 : Int32).toNatClampNeg r3) (2 : Int32).toNatClampNeg r5) (3 : Int32).toNatClampNeg r7) (4 : Int32).toNatClampNeg r9) (5 : Int32).toNatClampNeg r11) (6 : Int32).toNatClampNeg r13)]) := hD
  refine lv_aload_n hx hb dL_seen_56 rfl (lv_at hl 0 rfl) ?_
  refine lv_bipush (v := 7) hx hb dL_seen_57 (by decide) ?_
  refine lv_aload_n hx hb dL_seen_59 rfl (lv_at hl 1 rfl) ?_
  refine gCi1 (bs := [kDW g a_dw0 ra_dw0 V_v13, kAr g at_y3 160 (upd (upd (upd (upd (upd (upd (upd (fun _ => 0) (0 : Int32).toNatClampNeg r1) (1 : Int32).toNatClampNeg r3) (2 : Int32).toNatClampNeg r5) (3 : Int32).toNatClampNeg r7) (4 : Int32).toNatClampNeg r9) (5 : Int32).toNatClampNeg r11) (6 : Int32).toNatClampNeg r13)]) (wf := (fun v => [kDW g a_dw0 ra_dw0 v])) (gRunVL (As := []) (rest := [.int 7, .ref (at_y3 0)]) ⟨hx, hb, hml, hown, hts⟩ (gMetL (ctP_ploughedTotal l hl0 g t a_dw0 ra_dw0 _ V_v13 hw)) (cwV 0 hts (goodF gV_X6_ploughedTotal) rfl rfl rfl (by decide +kernel) ⟨Nat.le_of_ble_eq_true rfl, Nat.le_of_ble_eq_true rfl⟩) hE hN hX hS (gFree (bs := [kDW g a_dw0 ra_dw0 V_v13, kAr g at_y3 160 (upd (upd (upd (upd (upd (upd (upd (fun _ => 0) (0 : Int32).toNatClampNeg r1) (1 : Int32).toNatClampNeg r3) (2 : Int32).toNatClampNeg r5) (3 : Int32).toNatClampNeg r7) (4 : Int32).toNatClampNeg r9) (5 : Int32).toNatClampNeg r11) (6 : Int32).toNatClampNeg r13)]) hD hS hA [0]) (gSub (bs := [kDW g a_dw0 ra_dw0 V_v13, kAr g at_y3 160 (upd (upd (upd (upd (upd (upd (upd (fun _ => 0) (0 : Int32).toNatClampNeg r1) (1 : Int32).toNatClampNeg r3) (2 : Int32).toNatClampNeg r5) (3 : Int32).toNatClampNeg r7) (4 : Int32).toNatClampNeg r9) (5 : Int32).toNatClampNeg r11) (6 : Int32).toNatClampNeg r13)]) hP [0]) (gDSub (bs := [kDW g a_dw0 ra_dw0 V_v13, kAr g at_y3 160 (upd (upd (upd (upd (upd (upd (upd (fun _ => 0) (0 : Int32).toNatClampNeg r1) (1 : Int32).toNatClampNeg r3) (2 : Int32).toNatClampNeg r5) (3 : Int32).toNatClampNeg r7) (4 : Int32).toNatClampNeg r9) (5 : Int32).toNatClampNeg r11) (6 : Int32).toNatClampNeg r13)]) hD [0] rfl) 0 10 rfl rfl rfl rfl rfl hl.1 rfl (lv_room (Nat.le_of_ble_eq_true rfl)) dL_seen_60 ⟨(by show _ ≤ 172; omega), (by show _ ≤ 1186; omega)⟩) hP hD hS hA [0] rfl (fun _ => rfl) rfl (fun r15 V_v15 H locs hw hP hD hS => ?_)
  have hP : va_P g.1 vwCl (List.flatten [kDW g a_dw0 ra_dw0 V_v15, kAr g at_y3 160 (upd (upd (upd (upd (upd (upd (upd (fun _ => 0) (0 : Int32).toNatClampNeg r1) (1 : Int32).toNatClampNeg r3) (2 : Int32).toNatClampNeg r5) (3 : Int32).toNatClampNeg r7) (4 : Int32).toNatClampNeg r9) (5 : Int32).toNatClampNeg r11) (6 : Int32).toNatClampNeg r13)]) H := hP
  have hD : va_D A (List.flatten [kDW g a_dw0 ra_dw0 V_v15, kAr g at_y3 160 (upd (upd (upd (upd (upd (upd (upd (fun _ => 0) (0 : Int32).toNatClampNeg r1) (1 : Int32).toNatClampNeg r3) (2 : Int32).toNatClampNeg r5) (3 : Int32).toNatClampNeg r7) (4 : Int32).toNatClampNeg r9) (5 : Int32).toNatClampNeg r11) (6 : Int32).toNatClampNeg r13)]) := hD
  have h16 := hw.1
  have hw := hw.2
  refine va_iast hx hb hE.1 hP hD hS _ 0 kAr_get rfl h16 dL_seen_63 (fun H locs hP hD hS => ?_)
  rw [kAr_set] at hP hD
  have hP : va_P g.1 vwCl (List.flatten [kDW g a_dw0 ra_dw0 V_v15, kAr g at_y3 160 (upd (upd (upd (upd (upd (upd (upd (upd (fun _ => 0) (0 : Int32).toNatClampNeg r1) (1 : Int32).toNatClampNeg r3) (2 : Int32).toNatClampNeg r5) (3 : Int32).toNatClampNeg r7) (4 : Int32).toNatClampNeg r9) (5 : Int32).toNatClampNeg r11) (6 : Int32).toNatClampNeg r13) (7 : Int32).toNatClampNeg r15)]) H := hP
  have hD : va_D A (List.flatten [kDW g a_dw0 ra_dw0 V_v15, kAr g at_y3 160 (upd (upd (upd (upd (upd (upd (upd (upd (fun _ => 0) (0 : Int32).toNatClampNeg r1) (1 : Int32).toNatClampNeg r3) (2 : Int32).toNatClampNeg r5) (3 : Int32).toNatClampNeg r7) (4 : Int32).toNatClampNeg r9) (5 : Int32).toNatClampNeg r11) (6 : Int32).toNatClampNeg r13) (7 : Int32).toNatClampNeg r15)]) := hD
  refine lv_aload_n hx hb dL_seen_64 rfl (lv_at hl 0 rfl) ?_
  refine lv_bipush (v := 8) hx hb dL_seen_65 (by decide) ?_
  refine lv_aload_n hx hb dL_seen_67 rfl (lv_at hl 1 rfl) ?_
  refine gCi1 (bs := [kDW g a_dw0 ra_dw0 V_v15, kAr g at_y3 160 (upd (upd (upd (upd (upd (upd (upd (upd (fun _ => 0) (0 : Int32).toNatClampNeg r1) (1 : Int32).toNatClampNeg r3) (2 : Int32).toNatClampNeg r5) (3 : Int32).toNatClampNeg r7) (4 : Int32).toNatClampNeg r9) (5 : Int32).toNatClampNeg r11) (6 : Int32).toNatClampNeg r13) (7 : Int32).toNatClampNeg r15)]) (wf := (fun v => [kDW g a_dw0 ra_dw0 v])) (gRunVL (As := []) (rest := [.int 8, .ref (at_y3 0)]) ⟨hx, hb, hml, hown, hts⟩ (gMetL (ctP_failedOrders l hl0 g t a_dw0 ra_dw0 _ V_v15 hw)) (cwV 0 hts (goodF gV_X6_failedOrders) rfl rfl rfl (by decide +kernel) ⟨Nat.le_of_ble_eq_true rfl, Nat.le_of_ble_eq_true rfl⟩) hE hN hX hS (gFree (bs := [kDW g a_dw0 ra_dw0 V_v15, kAr g at_y3 160 (upd (upd (upd (upd (upd (upd (upd (upd (fun _ => 0) (0 : Int32).toNatClampNeg r1) (1 : Int32).toNatClampNeg r3) (2 : Int32).toNatClampNeg r5) (3 : Int32).toNatClampNeg r7) (4 : Int32).toNatClampNeg r9) (5 : Int32).toNatClampNeg r11) (6 : Int32).toNatClampNeg r13) (7 : Int32).toNatClampNeg r15)]) hD hS hA [0]) (gSub (bs := [kDW g a_dw0 ra_dw0 V_v15, kAr g at_y3 160 (upd (upd (upd (upd (upd (upd (upd (upd (fun _ => 0) (0 : Int32).toNatClampNeg r1) (1 : Int32).toNatClampNeg r3) (2 : Int32).toNatClampNeg r5) (3 : Int32).toNatClampNeg r7) (4 : Int32).toNatClampNeg r9) (5 : Int32).toNatClampNeg r11) (6 : Int32).toNatClampNeg r13) (7 : Int32).toNatClampNeg r15)]) hP [0]) (gDSub (bs := [kDW g a_dw0 ra_dw0 V_v15, kAr g at_y3 160 (upd (upd (upd (upd (upd (upd (upd (upd (fun _ => 0) (0 : Int32).toNatClampNeg r1) (1 : Int32).toNatClampNeg r3) (2 : Int32).toNatClampNeg r5) (3 : Int32).toNatClampNeg r7) (4 : Int32).toNatClampNeg r9) (5 : Int32).toNatClampNeg r11) (6 : Int32).toNatClampNeg r13) (7 : Int32).toNatClampNeg r15)]) hD [0] rfl) 0 10 rfl rfl rfl rfl rfl hl.1 rfl (lv_room (Nat.le_of_ble_eq_true rfl)) dL_seen_68 ⟨(by show _ ≤ 172; omega), (by show _ ≤ 1186; omega)⟩) hP hD hS hA [0] rfl (fun _ => rfl) rfl (fun r17 V_v17 H locs hw hP hD hS => ?_)
  have hP : va_P g.1 vwCl (List.flatten [kDW g a_dw0 ra_dw0 V_v17, kAr g at_y3 160 (upd (upd (upd (upd (upd (upd (upd (upd (fun _ => 0) (0 : Int32).toNatClampNeg r1) (1 : Int32).toNatClampNeg r3) (2 : Int32).toNatClampNeg r5) (3 : Int32).toNatClampNeg r7) (4 : Int32).toNatClampNeg r9) (5 : Int32).toNatClampNeg r11) (6 : Int32).toNatClampNeg r13) (7 : Int32).toNatClampNeg r15)]) H := hP
  have hD : va_D A (List.flatten [kDW g a_dw0 ra_dw0 V_v17, kAr g at_y3 160 (upd (upd (upd (upd (upd (upd (upd (upd (fun _ => 0) (0 : Int32).toNatClampNeg r1) (1 : Int32).toNatClampNeg r3) (2 : Int32).toNatClampNeg r5) (3 : Int32).toNatClampNeg r7) (4 : Int32).toNatClampNeg r9) (5 : Int32).toNatClampNeg r11) (6 : Int32).toNatClampNeg r13) (7 : Int32).toNatClampNeg r15)]) := hD
  have h18 := hw.1
  have hw := hw.2
  refine va_iast hx hb hE.1 hP hD hS _ 0 kAr_get rfl h18 dL_seen_71 (fun H locs hP hD hS => ?_)
  rw [kAr_set] at hP hD
  have hP : va_P g.1 vwCl (List.flatten [kDW g a_dw0 ra_dw0 V_v17, kAr g at_y3 160 (upd (upd (upd (upd (upd (upd (upd (upd (upd (fun _ => 0) (0 : Int32).toNatClampNeg r1) (1 : Int32).toNatClampNeg r3) (2 : Int32).toNatClampNeg r5) (3 : Int32).toNatClampNeg r7) (4 : Int32).toNatClampNeg r9) (5 : Int32).toNatClampNeg r11) (6 : Int32).toNatClampNeg r13) (7 : Int32).toNatClampNeg r15) (8 : Int32).toNatClampNeg r17)]) H := hP
  have hD : va_D A (List.flatten [kDW g a_dw0 ra_dw0 V_v17, kAr g at_y3 160 (upd (upd (upd (upd (upd (upd (upd (upd (upd (fun _ => 0) (0 : Int32).toNatClampNeg r1) (1 : Int32).toNatClampNeg r3) (2 : Int32).toNatClampNeg r5) (3 : Int32).toNatClampNeg r7) (4 : Int32).toNatClampNeg r9) (5 : Int32).toNatClampNeg r11) (6 : Int32).toNatClampNeg r13) (7 : Int32).toNatClampNeg r15) (8 : Int32).toNatClampNeg r17)]) := hD
  refine lv_aload_n hx hb dL_seen_72 rfl (lv_at hl 0 rfl) ?_
  refine lv_bipush (v := 9) hx hb dL_seen_73 (by decide) ?_
  refine lv_aload_n hx hb dL_seen_75 rfl (lv_at hl 1 rfl) ?_
  refine gCi1 (bs := [kDW g a_dw0 ra_dw0 V_v17, kAr g at_y3 160 (upd (upd (upd (upd (upd (upd (upd (upd (upd (fun _ => 0) (0 : Int32).toNatClampNeg r1) (1 : Int32).toNatClampNeg r3) (2 : Int32).toNatClampNeg r5) (3 : Int32).toNatClampNeg r7) (4 : Int32).toNatClampNeg r9) (5 : Int32).toNatClampNeg r11) (6 : Int32).toNatClampNeg r13) (7 : Int32).toNatClampNeg r15) (8 : Int32).toNatClampNeg r17)]) (wf := (fun v => [kDW g a_dw0 ra_dw0 v])) (gRunVL (As := []) (rest := [.int 9, .ref (at_y3 0)]) ⟨hx, hb, hml, hown, hts⟩ (gMetL (ctP_complaintTotal l hl0 g t a_dw0 ra_dw0 _ V_v17 hw)) (cwV 0 hts (goodF gV_X6_complaintTotal) rfl rfl rfl (by decide +kernel) ⟨Nat.le_of_ble_eq_true rfl, Nat.le_of_ble_eq_true rfl⟩) hE hN hX hS (gFree (bs := [kDW g a_dw0 ra_dw0 V_v17, kAr g at_y3 160 (upd (upd (upd (upd (upd (upd (upd (upd (upd (fun _ => 0) (0 : Int32).toNatClampNeg r1) (1 : Int32).toNatClampNeg r3) (2 : Int32).toNatClampNeg r5) (3 : Int32).toNatClampNeg r7) (4 : Int32).toNatClampNeg r9) (5 : Int32).toNatClampNeg r11) (6 : Int32).toNatClampNeg r13) (7 : Int32).toNatClampNeg r15) (8 : Int32).toNatClampNeg r17)]) hD hS hA [0]) (gSub (bs := [kDW g a_dw0 ra_dw0 V_v17, kAr g at_y3 160 (upd (upd (upd (upd (upd (upd (upd (upd (upd (fun _ => 0) (0 : Int32).toNatClampNeg r1) (1 : Int32).toNatClampNeg r3) (2 : Int32).toNatClampNeg r5) (3 : Int32).toNatClampNeg r7) (4 : Int32).toNatClampNeg r9) (5 : Int32).toNatClampNeg r11) (6 : Int32).toNatClampNeg r13) (7 : Int32).toNatClampNeg r15) (8 : Int32).toNatClampNeg r17)]) hP [0]) (gDSub (bs := [kDW g a_dw0 ra_dw0 V_v17, kAr g at_y3 160 (upd (upd (upd (upd (upd (upd (upd (upd (upd (fun _ => 0) (0 : Int32).toNatClampNeg r1) (1 : Int32).toNatClampNeg r3) (2 : Int32).toNatClampNeg r5) (3 : Int32).toNatClampNeg r7) (4 : Int32).toNatClampNeg r9) (5 : Int32).toNatClampNeg r11) (6 : Int32).toNatClampNeg r13) (7 : Int32).toNatClampNeg r15) (8 : Int32).toNatClampNeg r17)]) hD [0] rfl) 0 10 rfl rfl rfl rfl rfl hl.1 rfl (lv_room (Nat.le_of_ble_eq_true rfl)) dL_seen_76 ⟨(by show _ ≤ 172; omega), (by show _ ≤ 1186; omega)⟩) hP hD hS hA [0] rfl (fun _ => rfl) rfl (fun r19 V_v19 H locs hw hP hD hS => ?_)
  have hP : va_P g.1 vwCl (List.flatten [kDW g a_dw0 ra_dw0 V_v19, kAr g at_y3 160 (upd (upd (upd (upd (upd (upd (upd (upd (upd (fun _ => 0) (0 : Int32).toNatClampNeg r1) (1 : Int32).toNatClampNeg r3) (2 : Int32).toNatClampNeg r5) (3 : Int32).toNatClampNeg r7) (4 : Int32).toNatClampNeg r9) (5 : Int32).toNatClampNeg r11) (6 : Int32).toNatClampNeg r13) (7 : Int32).toNatClampNeg r15) (8 : Int32).toNatClampNeg r17)]) H := hP
  have hD : va_D A (List.flatten [kDW g a_dw0 ra_dw0 V_v19, kAr g at_y3 160 (upd (upd (upd (upd (upd (upd (upd (upd (upd (fun _ => 0) (0 : Int32).toNatClampNeg r1) (1 : Int32).toNatClampNeg r3) (2 : Int32).toNatClampNeg r5) (3 : Int32).toNatClampNeg r7) (4 : Int32).toNatClampNeg r9) (5 : Int32).toNatClampNeg r11) (6 : Int32).toNatClampNeg r13) (7 : Int32).toNatClampNeg r15) (8 : Int32).toNatClampNeg r17)]) := hD
  have h20 := hw.1
  have hw := hw.2
  refine va_iast hx hb hE.1 hP hD hS _ 0 kAr_get rfl h20 dL_seen_79 (fun H locs hP hD hS => ?_)
  rw [kAr_set] at hP hD
  have hP : va_P g.1 vwCl (List.flatten [kDW g a_dw0 ra_dw0 V_v19, kAr g at_y3 160 (upd (upd (upd (upd (upd (upd (upd (upd (upd (upd (fun _ => 0) (0 : Int32).toNatClampNeg r1) (1 : Int32).toNatClampNeg r3) (2 : Int32).toNatClampNeg r5) (3 : Int32).toNatClampNeg r7) (4 : Int32).toNatClampNeg r9) (5 : Int32).toNatClampNeg r11) (6 : Int32).toNatClampNeg r13) (7 : Int32).toNatClampNeg r15) (8 : Int32).toNatClampNeg r17) (9 : Int32).toNatClampNeg r19)]) H := hP
  have hD : va_D A (List.flatten [kDW g a_dw0 ra_dw0 V_v19, kAr g at_y3 160 (upd (upd (upd (upd (upd (upd (upd (upd (upd (upd (fun _ => 0) (0 : Int32).toNatClampNeg r1) (1 : Int32).toNatClampNeg r3) (2 : Int32).toNatClampNeg r5) (3 : Int32).toNatClampNeg r7) (4 : Int32).toNatClampNeg r9) (5 : Int32).toNatClampNeg r11) (6 : Int32).toNatClampNeg r13) (7 : Int32).toNatClampNeg r15) (8 : Int32).toNatClampNeg r17) (9 : Int32).toNatClampNeg r19)]) := hD
  refine lv_iconst (v := 0) hx hb dL_seen_80 (by decide) ?_
  refine lv_istore_n (lv' := [(2, .int 0), (1, .ref (at_y3 0)), (0, .ref (a_dw0 0 0))]) hx hb dL_seen_81 rfl hl (by decide) rfl (fun ls hl => ?_)
  obtain ⟨n, hn, hw⟩ := hw
  have hbc := zbud_le (a := 7) hn
  have hbs := zbud_le (a := 42) hn
  have hbc : zbud 7 n ≤ 91 := hbc
  have hbs : zbud 42 n ≤ 546 := hbs
  exact L82 n 0 V_v19 at_y3 (upd (upd (upd (upd (upd (upd (upd (upd (upd (upd (fun _ => 0) (0 : Int32).toNatClampNeg r1) (1 : Int32).toNatClampNeg r3) (2 : Int32).toNatClampNeg r5) (3 : Int32).toNatClampNeg r7) (4 : Int32).toNatClampNeg r9) (5 : Int32).toNatClampNeg r11) (6 : Int32).toNatClampNeg r13) (7 : Int32).toNatClampNeg r15) (8 : Int32).toNatClampNeg r17) (9 : Int32).toNatClampNeg r19) _ _ _ _ _ (by omega) (by omega) hw hP hD hS (lv_sub hl [2, 1, 0] rfl)
