/-! contract: by program -/
abbrev rmL_begun : Room := { frames := 8, cells := 229, slots := 2193, locals := 375 }
set_option maxHeartbeats 8000000 in
set_option maxRecDepth 100000 in
theorem ctL_begun (l : Launch) (hl0 : l.stackTraces = false) (g : GG) (t : GT) (sz : Nat) (z_len : Nat) (z_txt : Nat → Int32) (hgz : t.1 61 = z_len ∧ zxs t = z_txt) {post : (Nat → Nat → Nat) → (Nat → Nat → Nat) → DV → Prop} (hw : wpL_begun z_len z_txt post) :
    Met l yL_begun wsB_L_begun rmL_begun (gPL g t sz (List.flatten ([] : List va_W)) [.ref (t.1 60)]) (va_Qr (fun w : (Nat → Nat → Nat) × (Nat → Nat → Nat) × DV => post w.1 w.2.1 w.2.2) (fun w a tt => a = (fun w : (Nat → Nat → Nat) × (Nat → Nat → Nat) × DV => w.1 0 0) w ∧ gB g (List.flatten ([] : List va_W)) sz (List.flatten ((fun w : (Nat → Nat → Nat) × (Nat → Nat → Nat) × DV => [kDW g w.1 w.2.1 w.2.2]) w)) tt) (va_A (List.flatten ([] : List va_W)) sz)) 229 2193 (va_A (List.flatten ([] : List va_W)) sz) := by
  refine gOfL (cc := cL_begun) (maxL := 5) (ret := (some (.object "SnowDispatcher"))) (by decide) rfl (Nat.le_of_ble_eq_true rfl) ?_
  intro p e s m below meth c ls Q A hQ hx hb hr hml hts hown hlocks hE hA0 hsz hP hD hA hS hl hX hN
  have hzs := hX.1.2.2.2.2.2.2.2.2.2
  have hzs : va_X (t.1 60) z_len z_txt s s.heap ∧ t.1 60 < s.heap.size ∧ ¬ A (t.1 60) := by rw [← hgz.1, ← hgz.2]; exact hX.1.2.2.2.2.2.2.2.2.2
  have hl : lv_has ls 5 [(0, .ref (t.1 60))] := hl
  have L128 : ∀ (n : Nat) (x2_128 : Int32) (x4_128 : Int32) (a_y0_128 : Nat → Nat → Nat) (ra_y0_128 : Nat → Nat → Nat) (V_y0_128 : DV) (H : Heap) (locs : List Loc) (ls : Array Slot) (cl sl : Nat), cl + zbud 1 n ≤ 224 → sl + zbud 6 n ≤ 2163 → wpL_begun_L128 z_len z_txt post n x2_128 x4_128 a_y0_128 ra_y0_128 V_y0_128 → va_P g.1 vwCl (List.flatten [kDW g a_y0_128 ra_y0_128 V_y0_128]) H → va_D A (List.flatten [kDW g a_y0_128 ra_y0_128 V_y0_128]) → va_S A s.heap H locs → lv_has ls 5 [(0, .ref (t.1 60)), (1, .ref (a_y0_128 0 0)), (2, .int x2_128), (4, .int x4_128)] → W p l e rmL_begun s m (([.ref (t.1 60)] : List Value).toArray) below meth c H locs cl sl Q (F0 m 128 ls []) := by
    intro n_128
    induction n_128 with
    | zero => intro x2_128 x4_128 a_y0_128 ra_y0_128 V_y0_128 H locs ls cl sl _ _ hw; exact False.elim hw
    | succ n_128 ih_128 =>
      intro x2_128 x4_128 a_y0_128 ra_y0_128 V_y0_128 H locs ls cl_128 sl_128 hc_128 hs_128 hw hP hD hS hl
      have hc_128 := zbud_s hc_128
      have hs_128 := zbud_s hs_128
      refine lv_iload hx hb dL_begun_128 (lv_at hl 3 rfl) ?_
      refine lv_iconst (v := 5) hx hb dL_begun_130 (by decide) ?_
      refine lv_icmp_ge (tgt := 170) hx hb dL_begun_131 (by decide) (fun c_131 => ?_) (fun c_131 => ?_)
      · have hw := hw.1 c_131
        refine lv_iload_n hx hb dL_begun_170 rfl (lv_at hl 2 rfl) ?_
        refine lv_aload_n hx hb dL_begun_171 rfl (lv_at hl 1 rfl) ?_
        refine lv_iconst (v := 1) hx hb dL_begun_172 (by decide) ?_
        refine lv_aload_n hx hb dL_begun_173 rfl (lv_at hl 0 rfl) ?_
        refine lv_bipush (v := 49) hx hb dL_begun_174 (by decide) ?_
        refine lv_bipush (v := 60) hx hb dL_begun_176 (by decide) ?_
        refine gCi0 (bs := [kDW g a_y0_128 ra_y0_128 V_y0_128]) (wf := ([] : List va_W)) (gRunSL (As := [.ref (t.1 60), .int 49, .int 60]) (rest := [.int 1, .ref (a_y0_128 0 0), .int x2_128]) ⟨hx, hb, hml, hown, hts⟩ (ctL_in l hl0 g t _ z_len z_txt hgz 49 60 hw) (va_cwS 3 hts (goodF gS_L_in) rfl rfl rfl (by decide +kernel) ⟨Nat.le_of_ble_eq_true rfl, Nat.le_of_ble_eq_true rfl⟩) hE hN hX hS (gFree (bs := [kDW g a_y0_128 ra_y0_128 V_y0_128]) hD hS hA []) (gSub (bs := [kDW g a_y0_128 ra_y0_128 V_y0_128]) hP []) (gDSub (bs := [kDW g a_y0_128 ra_y0_128 V_y0_128]) hD [] rfl) rfl rfl hl.1 rfl (lv_room (Nat.le_of_ble_eq_true rfl)) dL_begun_178 ⟨(by show _ ≤ 229; omega), (by show _ ≤ 2193; omega)⟩) hP hD hS hA [] rfl rfl rfl (fun r7 H locs hw hP hD hS => ?_)
        have hP : va_P g.1 vwCl (List.flatten [kDW g a_y0_128 ra_y0_128 V_y0_128]) H := hP
        have hD : va_D A (List.flatten [kDW g a_y0_128 ra_y0_128 V_y0_128]) := hD
        refine lv_iadd hx hb dL_begun_181 ?_
        refine gCi1 (bs := [kDW g a_y0_128 ra_y0_128 V_y0_128]) (wf := (fun v => [kDW g a_y0_128 ra_y0_128 v])) (gRunSWL (As := [.ref (a_y0_128 0 0), .int (1 + r7)]) (rest := [.int x2_128]) ⟨hx, hb, hml, hown, hts⟩ (gMetL (ctL_loadSalt l hl0 g t a_y0_128 ra_y0_128 _ V_y0_128 (1 + r7) hw)) (vx_cwSW 2 hts (goodF gS_L_loadSalt) rfl rfl rfl (by decide +kernel) ⟨Nat.le_of_ble_eq_true rfl, Nat.le_of_ble_eq_true rfl⟩) hE hN hX hS (gFree (bs := [kDW g a_y0_128 ra_y0_128 V_y0_128]) hD hS hA [0]) (gSub (bs := [kDW g a_y0_128 ra_y0_128 V_y0_128]) hP [0]) (gDSub (bs := [kDW g a_y0_128 ra_y0_128 V_y0_128]) hD [0] rfl) rfl rfl hl.1 rfl (lv_room (Nat.le_of_ble_eq_true rfl)) dL_begun_182 ⟨(by show _ ≤ 229; omega), (by show _ ≤ 2193; omega)⟩) hP hD hS hA [0] rfl (fun _ => rfl) rfl (fun r8 V_v8 H locs hw hP hD hS => ?_)
        have hP : va_P g.1 vwCl (List.flatten [kDW g a_y0_128 ra_y0_128 V_v8]) H := hP
        have hD : va_D A (List.flatten [kDW g a_y0_128 ra_y0_128 V_v8]) := hD
        refine lv_aload_n hx hb dL_begun_185 rfl (lv_at hl 1 rfl) ?_
        refine lv_aload_n hx hb dL_begun_186 rfl (lv_at hl 0 rfl) ?_
        refine lv_bipush (v := 50) hx hb dL_begun_187 (by decide) ?_
        refine lv_bipush (v := 10) hx hb dL_begun_189 (by decide) ?_
        refine gCi0 (bs := [kDW g a_y0_128 ra_y0_128 V_v8]) (wf := ([] : List va_W)) (gRunSL (As := [.ref (t.1 60), .int 50, .int 10]) (rest := [.ref (a_y0_128 0 0), .int r8, .int x2_128]) ⟨hx, hb, hml, hown, hts⟩ (ctL_in l hl0 g t _ z_len z_txt hgz 50 10 hw) (va_cwS 3 hts (goodF gS_L_in) rfl rfl rfl (by decide +kernel) ⟨Nat.le_of_ble_eq_true rfl, Nat.le_of_ble_eq_true rfl⟩) hE hN hX hS (gFree (bs := [kDW g a_y0_128 ra_y0_128 V_v8]) hD hS hA []) (gSub (bs := [kDW g a_y0_128 ra_y0_128 V_v8]) hP []) (gDSub (bs := [kDW g a_y0_128 ra_y0_128 V_v8]) hD [] rfl) rfl rfl hl.1 rfl (lv_room (Nat.le_of_ble_eq_true rfl)) dL_begun_191 ⟨(by show _ ≤ 229; omega), (by show _ ≤ 2193; omega)⟩) hP hD hS hA [] rfl rfl rfl (fun r9 H locs hw hP hD hS => ?_)
        have hP : va_P g.1 vwCl (List.flatten [kDW g a_y0_128 ra_y0_128 V_v8]) H := hP
        have hD : va_D A (List.flatten [kDW g a_y0_128 ra_y0_128 V_v8]) := hD
        refine gCi1 (bs := [kDW g a_y0_128 ra_y0_128 V_v8]) (wf := (fun v => [kDW g a_y0_128 ra_y0_128 v])) (gRunSWL (As := [.ref (a_y0_128 0 0), .int r9]) (rest := [.int r8, .int x2_128]) ⟨hx, hb, hml, hown, hts⟩ (gMetL (ctL_setSnowfall l hl0 g t a_y0_128 ra_y0_128 _ V_v8 r9 hw)) (vx_cwSW 2 hts (goodF gS_L_setSnowfall) rfl rfl rfl (by decide +kernel) ⟨Nat.le_of_ble_eq_true rfl, Nat.le_of_ble_eq_true rfl⟩) hE hN hX hS (gFree (bs := [kDW g a_y0_128 ra_y0_128 V_v8]) hD hS hA [0]) (gSub (bs := [kDW g a_y0_128 ra_y0_128 V_v8]) hP [0]) (gDSub (bs := [kDW g a_y0_128 ra_y0_128 V_v8]) hD [0] rfl) rfl rfl hl.1 rfl (lv_room (Nat.le_of_ble_eq_true rfl)) dL_begun_194 ⟨(by show _ ≤ 229; omega), (by show _ ≤ 2193; omega)⟩) hP hD hS hA [0] rfl (fun _ => rfl) rfl (fun r10 V_v10 H locs hw hP hD hS => ?_)
        have hP : va_P g.1 vwCl (List.flatten [kDW g a_y0_128 ra_y0_128 V_v10]) H := hP
        have hD : va_D A (List.flatten [kDW g a_y0_128 ra_y0_128 V_v10]) := hD
        refine lv_iadd hx hb dL_begun_197 ?_
        refine lv_aload_n hx hb dL_begun_198 rfl (lv_at hl 1 rfl) ?_
        refine lv_aload_n hx hb dL_begun_199 rfl (lv_at hl 0 rfl) ?_
        refine lv_bipush (v := 51) hx hb dL_begun_200 (by decide) ?_
        refine lv_bipush (v := 10) hx hb dL_begun_202 (by decide) ?_
        refine gCi0 (bs := [kDW g a_y0_128 ra_y0_128 V_v10]) (wf := ([] : List va_W)) (gRunSL (As := [.ref (t.1 60), .int 51, .int 10]) (rest := [.ref (a_y0_128 0 0), .int (r8 + r10), .int x2_128]) ⟨hx, hb, hml, hown, hts⟩ (ctL_in l hl0 g t _ z_len z_txt hgz 51 10 hw) (va_cwS 3 hts (goodF gS_L_in) rfl rfl rfl (by decide +kernel) ⟨Nat.le_of_ble_eq_true rfl, Nat.le_of_ble_eq_true rfl⟩) hE hN hX hS (gFree (bs := [kDW g a_y0_128 ra_y0_128 V_v10]) hD hS hA []) (gSub (bs := [kDW g a_y0_128 ra_y0_128 V_v10]) hP []) (gDSub (bs := [kDW g a_y0_128 ra_y0_128 V_v10]) hD [] rfl) rfl rfl hl.1 rfl (lv_room (Nat.le_of_ble_eq_true rfl)) dL_begun_204 ⟨(by show _ ≤ 229; omega), (by show _ ≤ 2193; omega)⟩) hP hD hS hA [] rfl rfl rfl (fun r11 H locs hw hP hD hS => ?_)
        have hP : va_P g.1 vwCl (List.flatten [kDW g a_y0_128 ra_y0_128 V_v10]) H := hP
        have hD : va_D A (List.flatten [kDW g a_y0_128 ra_y0_128 V_v10]) := hD
        refine gCi1 (bs := [kDW g a_y0_128 ra_y0_128 V_v10]) (wf := (fun v => [kDW g a_y0_128 ra_y0_128 v])) (gRunSWL (As := [.ref (a_y0_128 0 0), .int r11]) (rest := [.int (r8 + r10), .int x2_128]) ⟨hx, hb, hml, hown, hts⟩ (gMetL (ctL_setWind l hl0 g t a_y0_128 ra_y0_128 _ V_v10 r11 hw)) (vx_cwSW 2 hts (goodF gS_L_setWind) rfl rfl rfl (by decide +kernel) ⟨Nat.le_of_ble_eq_true rfl, Nat.le_of_ble_eq_true rfl⟩) hE hN hX hS (gFree (bs := [kDW g a_y0_128 ra_y0_128 V_v10]) hD hS hA [0]) (gSub (bs := [kDW g a_y0_128 ra_y0_128 V_v10]) hP [0]) (gDSub (bs := [kDW g a_y0_128 ra_y0_128 V_v10]) hD [0] rfl) rfl rfl hl.1 rfl (lv_room (Nat.le_of_ble_eq_true rfl)) dL_begun_207 ⟨(by show _ ≤ 229; omega), (by show _ ≤ 2193; omega)⟩) hP hD hS hA [0] rfl (fun _ => rfl) rfl (fun r12 V_v12 H locs hw hP hD hS => ?_)
        have hP : va_P g.1 vwCl (List.flatten [kDW g a_y0_128 ra_y0_128 V_v12]) H := hP
        have hD : va_D A (List.flatten [kDW g a_y0_128 ra_y0_128 V_v12]) := hD
        refine lv_iadd hx hb dL_begun_210 ?_
        refine lv_aload_n hx hb dL_begun_211 rfl (lv_at hl 1 rfl) ?_
        refine lv_iconst (v := 0) hx hb dL_begun_212 (by decide) ?_
        refine gCi1 (bs := [kDW g a_y0_128 ra_y0_128 V_v12]) (wf := (fun v => [kDW g a_y0_128 ra_y0_128 v])) (gRunSWL (As := [.ref (a_y0_128 0 0), .int 0]) (rest := [.int ((r8 + r10) + r12), .int x2_128]) ⟨hx, hb, hml, hown, hts⟩ (gMetL (ctL_salt l hl0 g t a_y0_128 ra_y0_128 _ V_v12 0 hw)) (vx_cwSW 2 hts (goodF gS_L_salt) rfl rfl rfl (by decide +kernel) ⟨Nat.le_of_ble_eq_true rfl, Nat.le_of_ble_eq_true rfl⟩) hE hN hX hS (gFree (bs := [kDW g a_y0_128 ra_y0_128 V_v12]) hD hS hA [0]) (gSub (bs := [kDW g a_y0_128 ra_y0_128 V_v12]) hP [0]) (gDSub (bs := [kDW g a_y0_128 ra_y0_128 V_v12]) hD [0] rfl) rfl rfl hl.1 rfl (lv_room (Nat.le_of_ble_eq_true rfl)) dL_begun_213 ⟨(by show _ ≤ 229; omega), (by show _ ≤ 2193; omega)⟩) hP hD hS hA [0] rfl (fun _ => rfl) rfl (fun r13 V_v13 H locs hw hP hD hS => ?_)
        have hP : va_P g.1 vwCl (List.flatten [kDW g a_y0_128 ra_y0_128 V_v13]) H := hP
        have hD : va_D A (List.flatten [kDW g a_y0_128 ra_y0_128 V_v13]) := hD
        refine lv_iadd hx hb dL_begun_216 ?_
        refine lv_iadd hx hb dL_begun_217 ?_
        refine lv_istore_n (lv' := [(2, .int (x2_128 + (((r8 + r10) + r12) + r13))), (0, .ref (t.1 60)), (1, .ref (a_y0_128 0 0)), (4, .int x4_128)]) hx hb dL_begun_218 rfl hl (by decide) rfl (fun ls hl => ?_)
        refine lv_iload_n hx hb dL_begun_219 rfl (lv_at hl 0 rfl) ?_
        refine lv_aload_n hx hb dL_begun_220 rfl (lv_at hl 1 rfl) ?_
        refine lv_bipush (v := 52) hx hb dL_begun_221 (by decide) ?_
        refine lv_iconst (v := 2) hx hb dL_begun_223 (by decide) ?_
        refine gCi0 (bs := [kDW g a_y0_128 ra_y0_128 V_v13]) (wf := ([] : List va_W)) (gRunSL (As := [.ref (t.1 60), .int 52, .int 2]) (rest := [.int (x2_128 + (((r8 + r10) + r12) + r13))]) ⟨hx, hb, hml, hown, hts⟩ (ctL_in l hl0 g t _ z_len z_txt hgz 52 2 hw) (va_cwS 3 hts (goodF gS_L_in) rfl rfl rfl (by decide +kernel) ⟨Nat.le_of_ble_eq_true rfl, Nat.le_of_ble_eq_true rfl⟩) hE hN hX hS (gFree (bs := [kDW g a_y0_128 ra_y0_128 V_v13]) hD hS hA []) (gSub (bs := [kDW g a_y0_128 ra_y0_128 V_v13]) hP []) (gDSub (bs := [kDW g a_y0_128 ra_y0_128 V_v13]) hD [] rfl) rfl rfl hl.1 rfl (lv_room (Nat.le_of_ble_eq_true rfl)) dL_begun_224 ⟨(by show _ ≤ 229; omega), (by show _ ≤ 2193; omega)⟩) hP hD hS hA [] rfl rfl rfl (fun r14 H locs hw hP hD hS => ?_)
        have hP : va_P g.1 vwCl (List.flatten [kDW g a_y0_128 ra_y0_128 V_v13]) H := hP
        have hD : va_D A (List.flatten [kDW g a_y0_128 ra_y0_128 V_v13]) := hD
        refine lv_if_ne (tgt := 248) hx hb dL_begun_227 (by decide) (fun c_227 => ?_) (fun c_227 => ?_)
        · have hw := hw.1 c_227
          refine lv_iconst (v := 0) hx hb dL_begun_248 (by decide) ?_
          refine lv_iadd hx hb dL_begun_249 ?_
          refine lv_istore_n (lv' := [(2, .int ((x2_128 + (((r8 + r10) + r12) + r13)) + 0)), (0, .ref (t.1 60)), (1, .ref (a_y0_128 0 0)), (4, .int x4_128)]) hx hb dL_begun_250 rfl hl (by decide) rfl (fun ls hl => ?_)
          refine lv_iload_n hx hb dL_begun_251 rfl (lv_at hl 0 rfl) ?_
          refine lv_ldc (v := (-90000000)) hx hb hown (hts _ (lwM tw895)) dL_begun_252 ?_
          refine lv_icmp_ge (tgt := 261) hx hb dL_begun_254 (by decide) (fun c_254 => ?_) (fun c_254 => (hw.2 c_254).elim)
          have hw := hw.1 c_254
          refine lv_aload_n hx hb dL_begun_261 rfl (lv_at hl 2 rfl) ?_
          subst hQ
          refine W.widen (k := 229) (n := 2193) (by omega) (by omega) ?_
          exact W.aret hx hb hr (Or.inl ⟨_, rfl⟩) (Or.inr ⟨_, rfl⟩) (gRn (w := (a_y0_128, ra_y0_128, V_v13)) (ad := (fun w : (Nat → Nat → Nat) × (Nat → Nat → Nat) × DV => w.1 0 0)) (wf := (fun w : (Nat → Nat → Nat) × (Nat → Nat → Nat) × DV => [kDW g w.1 w.2.1 w.2.2])) hA0 hsz hw hP hD hS) hS.2.2 dL_begun_262
        · have hw := hw.2 c_227
          refine lv_aload_n hx hb dL_begun_230 rfl (lv_at hl 2 rfl) ?_
          refine lv_iconst (v := 1) hx hb dL_begun_231 (by decide) ?_
          refine lv_aload_n hx hb dL_begun_232 rfl (lv_at hl 1 rfl) ?_
          refine lv_bipush (v := 53) hx hb dL_begun_233 (by decide) ?_
          refine lv_sipush (v := 300) hx hb dL_begun_235 (by decide) ?_
          refine gCi0 (bs := [kDW g a_y0_128 ra_y0_128 V_v13]) (wf := ([] : List va_W)) (gRunSL (As := [.ref (t.1 60), .int 53, .int 300]) (rest := [.int 1, .ref (a_y0_128 0 0), .int (x2_128 + (((r8 + r10) + r12) + r13))]) ⟨hx, hb, hml, hown, hts⟩ (ctL_in l hl0 g t _ z_len z_txt hgz 53 300 hw) (va_cwS 3 hts (goodF gS_L_in) rfl rfl rfl (by decide +kernel) ⟨Nat.le_of_ble_eq_true rfl, Nat.le_of_ble_eq_true rfl⟩) hE hN hX hS (gFree (bs := [kDW g a_y0_128 ra_y0_128 V_v13]) hD hS hA []) (gSub (bs := [kDW g a_y0_128 ra_y0_128 V_v13]) hP []) (gDSub (bs := [kDW g a_y0_128 ra_y0_128 V_v13]) hD [] rfl) rfl rfl hl.1 rfl (lv_room (Nat.le_of_ble_eq_true rfl)) dL_begun_238 ⟨(by show _ ≤ 229; omega), (by show _ ≤ 2193; omega)⟩) hP hD hS hA [] rfl rfl rfl (fun r15 H locs hw hP hD hS => ?_)
          have hP : va_P g.1 vwCl (List.flatten [kDW g a_y0_128 ra_y0_128 V_v13]) H := hP
          have hD : va_D A (List.flatten [kDW g a_y0_128 ra_y0_128 V_v13]) := hD
          refine lv_iadd hx hb dL_begun_241 ?_
          refine gCi1 (bs := [kDW g a_y0_128 ra_y0_128 V_v13]) (wf := (fun v => [kDW g a_y0_128 ra_y0_128 v])) (gRunSWL (As := [.ref (a_y0_128 0 0), .int (1 + r15)]) (rest := [.int (x2_128 + (((r8 + r10) + r12) + r13))]) ⟨hx, hb, hml, hown, hts⟩ (gMetL (ctL_advance l hl0 g t a_y0_128 ra_y0_128 _ V_v13 (1 + r15) hw)) (vx_cwSW 2 hts (goodF gS_L_advance) rfl rfl rfl (by decide +kernel) ⟨Nat.le_of_ble_eq_true rfl, Nat.le_of_ble_eq_true rfl⟩) hE hN hX hS (gFree (bs := [kDW g a_y0_128 ra_y0_128 V_v13]) hD hS hA [0]) (gSub (bs := [kDW g a_y0_128 ra_y0_128 V_v13]) hP [0]) (gDSub (bs := [kDW g a_y0_128 ra_y0_128 V_v13]) hD [0] rfl) rfl rfl hl.1 rfl (lv_room (Nat.le_of_ble_eq_true rfl)) dL_begun_242 ⟨(by show _ ≤ 229; omega), (by show _ ≤ 2193; omega)⟩) hP hD hS hA [0] rfl (fun _ => rfl) rfl (fun r16 V_v16 H locs hw hP hD hS => ?_)
          have hP : va_P g.1 vwCl (List.flatten [kDW g a_y0_128 ra_y0_128 V_v16]) H := hP
          have hD : va_D A (List.flatten [kDW g a_y0_128 ra_y0_128 V_v16]) := hD
          refine lv_goto (tgt := 249) hx hb dL_begun_245 (by decide) ?_
          refine lv_iadd hx hb dL_begun_249 ?_
          refine lv_istore_n (lv' := [(2, .int ((x2_128 + (((r8 + r10) + r12) + r13)) + r16)), (0, .ref (t.1 60)), (1, .ref (a_y0_128 0 0)), (4, .int x4_128)]) hx hb dL_begun_250 rfl hl (by decide) rfl (fun ls hl => ?_)
          refine lv_iload_n hx hb dL_begun_251 rfl (lv_at hl 0 rfl) ?_
          refine lv_ldc (v := (-90000000)) hx hb hown (hts _ (lwM tw895)) dL_begun_252 ?_
          refine lv_icmp_ge (tgt := 261) hx hb dL_begun_254 (by decide) (fun c_254 => ?_) (fun c_254 => (hw.2 c_254).elim)
          have hw := hw.1 c_254
          refine lv_aload_n hx hb dL_begun_261 rfl (lv_at hl 2 rfl) ?_
          subst hQ
          refine W.widen (k := 229) (n := 2193) (by omega) (by omega) ?_
          exact W.aret hx hb hr (Or.inl ⟨_, rfl⟩) (Or.inr ⟨_, rfl⟩) (gRn (w := (a_y0_128, ra_y0_128, V_v16)) (ad := (fun w : (Nat → Nat → Nat) × (Nat → Nat → Nat) × DV => w.1 0 0)) (wf := (fun w : (Nat → Nat → Nat) × (Nat → Nat → Nat) × DV => [kDW g w.1 w.2.1 w.2.2])) hA0 hsz hw hP hD hS) hS.2.2 dL_begun_262
      · have hw := hw.2 c_131
        refine lv_iload_n hx hb dL_begun_134 rfl (lv_at hl 2 rfl) ?_
        refine lv_aload_n hx hb dL_begun_135 rfl (lv_at hl 1 rfl) ?_
        refine lv_aload_n hx hb dL_begun_136 rfl (lv_at hl 0 rfl) ?_
        refine lv_bipush (v := 39) hx hb dL_begun_137 (by decide) ?_
        refine lv_iload hx hb dL_begun_139 (lv_at hl 3 rfl) ?_
        refine lv_iadd hx hb dL_begun_141 ?_
        refine lv_iconst (v := 2) hx hb dL_begun_142 (by decide) ?_
        refine gCi0 (bs := [kDW g a_y0_128 ra_y0_128 V_y0_128]) (wf := ([] : List va_W)) (gRunSL (As := [.ref (t.1 60), .int (39 + x4_128), .int 2]) (rest := [.ref (a_y0_128 0 0), .int x2_128]) ⟨hx, hb, hml, hown, hts⟩ (ctL_in l hl0 g t _ z_len z_txt hgz (39 + x4_128) 2 hw) (va_cwS 3 hts (goodF gS_L_in) rfl rfl rfl (by decide +kernel) ⟨Nat.le_of_ble_eq_true rfl, Nat.le_of_ble_eq_true rfl⟩) hE hN hX hS (gFree (bs := [kDW g a_y0_128 ra_y0_128 V_y0_128]) hD hS hA []) (gSub (bs := [kDW g a_y0_128 ra_y0_128 V_y0_128]) hP []) (gDSub (bs := [kDW g a_y0_128 ra_y0_128 V_y0_128]) hD [] rfl) rfl rfl hl.1 rfl (lv_room (Nat.le_of_ble_eq_true rfl)) dL_begun_143 ⟨(by show _ ≤ 229; omega), (by show _ ≤ 2193; omega)⟩) hP hD hS hA [] rfl rfl rfl (fun r17 H locs hw hP hD hS => ?_)
        have hP : va_P g.1 vwCl (List.flatten [kDW g a_y0_128 ra_y0_128 V_y0_128]) H := hP
        have hD : va_D A (List.flatten [kDW g a_y0_128 ra_y0_128 V_y0_128]) := hD
        refine lv_aload_n hx hb dL_begun_146 rfl (lv_at hl 0 rfl) ?_
        refine lv_bipush (v := 44) hx hb dL_begun_147 (by decide) ?_
        refine lv_iload hx hb dL_begun_149 (lv_at hl 3 rfl) ?_
        refine lv_iadd hx hb dL_begun_151 ?_
        refine lv_aload_n hx hb dL_begun_152 rfl (lv_at hl 1 rfl) ?_
        refine gCi1 (bs := [kDW g a_y0_128 ra_y0_128 V_y0_128]) (wf := (fun v => [kDW g a_y0_128 ra_y0_128 v])) (gRunVL (As := []) (rest := [.int (44 + x4_128), .ref (t.1 60), .int r17, .ref (a_y0_128 0 0), .int x2_128]) ⟨hx, hb, hml, hown, hts⟩ (gMetL (ctP_streetCount l hl0 g t a_y0_128 ra_y0_128 _ V_y0_128 hw)) (cwV 0 hts (goodF gV_X6_streetCount) rfl rfl rfl (by decide +kernel) ⟨Nat.le_of_ble_eq_true rfl, Nat.le_of_ble_eq_true rfl⟩) hE hN hX hS (gFree (bs := [kDW g a_y0_128 ra_y0_128 V_y0_128]) hD hS hA [0]) (gSub (bs := [kDW g a_y0_128 ra_y0_128 V_y0_128]) hP [0]) (gDSub (bs := [kDW g a_y0_128 ra_y0_128 V_y0_128]) hD [0] rfl) 0 10 rfl rfl rfl rfl rfl hl.1 rfl (lv_room (Nat.le_of_ble_eq_true rfl)) dL_begun_153 ⟨(by show _ ≤ 229; omega), (by show _ ≤ 2193; omega)⟩) hP hD hS hA [0] rfl (fun _ => rfl) rfl (fun r18 V_v18 H locs hw hP hD hS => ?_)
        have hP : va_P g.1 vwCl (List.flatten [kDW g a_y0_128 ra_y0_128 V_v18]) H := hP
        have hD : va_D A (List.flatten [kDW g a_y0_128 ra_y0_128 V_v18]) := hD
        refine gCi0 (bs := [kDW g a_y0_128 ra_y0_128 V_v18]) (wf := ([] : List va_W)) (gRunSL (As := [.ref (t.1 60), .int (44 + x4_128), .int r18]) (rest := [.int r17, .ref (a_y0_128 0 0), .int x2_128]) ⟨hx, hb, hml, hown, hts⟩ (ctL_in l hl0 g t _ z_len z_txt hgz (44 + x4_128) r18 hw) (va_cwS 3 hts (goodF gS_L_in) rfl rfl rfl (by decide +kernel) ⟨Nat.le_of_ble_eq_true rfl, Nat.le_of_ble_eq_true rfl⟩) hE hN hX hS (gFree (bs := [kDW g a_y0_128 ra_y0_128 V_v18]) hD hS hA []) (gSub (bs := [kDW g a_y0_128 ra_y0_128 V_v18]) hP []) (gDSub (bs := [kDW g a_y0_128 ra_y0_128 V_v18]) hD [] rfl) rfl rfl hl.1 rfl (lv_room (Nat.le_of_ble_eq_true rfl)) dL_begun_156 ⟨(by show _ ≤ 229; omega), (by show _ ≤ 2193; omega)⟩) hP hD hS hA [] rfl rfl rfl (fun r19 H locs hw hP hD hS => ?_)
        have hP : va_P g.1 vwCl (List.flatten [kDW g a_y0_128 ra_y0_128 V_v18]) H := hP
        have hD : va_D A (List.flatten [kDW g a_y0_128 ra_y0_128 V_v18]) := hD
        refine gCi1 (bs := [kDW g a_y0_128 ra_y0_128 V_v18]) (wf := (fun v => [kDW g a_y0_128 ra_y0_128 v])) (gRunSWL (As := [.ref (a_y0_128 0 0), .int r17, .int r19]) (rest := [.int x2_128]) ⟨hx, hb, hml, hown, hts⟩ (gMetL (ctL_order l hl0 g t a_y0_128 ra_y0_128 _ V_v18 r17 r19 hw)) (vx_cwSW 3 hts (goodF gS_L_order) rfl rfl rfl (by decide +kernel) ⟨Nat.le_of_ble_eq_true rfl, Nat.le_of_ble_eq_true rfl⟩) hE hN hX hS (gFree (bs := [kDW g a_y0_128 ra_y0_128 V_v18]) hD hS hA [0]) (gSub (bs := [kDW g a_y0_128 ra_y0_128 V_v18]) hP [0]) (gDSub (bs := [kDW g a_y0_128 ra_y0_128 V_v18]) hD [0] rfl) rfl rfl hl.1 rfl (lv_room (Nat.le_of_ble_eq_true rfl)) dL_begun_159 ⟨(by show _ ≤ 229; omega), (by show _ ≤ 2193; omega)⟩) hP hD hS hA [0] rfl (fun _ => rfl) rfl (fun r20 V_v20 H locs hw hP hD hS => ?_)
        have hP : va_P g.1 vwCl (List.flatten [kDW g a_y0_128 ra_y0_128 V_v20]) H := hP
        have hD : va_D A (List.flatten [kDW g a_y0_128 ra_y0_128 V_v20]) := hD
        refine lv_iadd hx hb dL_begun_162 ?_
        refine lv_istore_n (lv' := [(2, .int (x2_128 + r20)), (0, .ref (t.1 60)), (1, .ref (a_y0_128 0 0)), (4, .int x4_128)]) hx hb dL_begun_163 rfl hl (by decide) rfl (fun ls hl => ?_)
        refine lv_iinc (v := (x4_128 + 1)) (lv' := [(4, .int (x4_128 + 1)), (2, .int (x2_128 + r20)), (0, .ref (t.1 60)), (1, .ref (a_y0_128 0 0))]) hx hb dL_begun_164 hl (k := 3) rfl rfl (by decide) rfl (fun ls hl => ?_)
        refine lv_goto (tgt := 128) hx hb dL_begun_167 (by decide) ?_
        exact ih_128 (x2_128 + r20) (x4_128 + 1) a_y0_128 ra_y0_128 V_v20 _ _ _ _ _ (by omega) (by omega) hw hP hD hS (lv_sub hl [2, 3, 1, 0] rfl)
  have L22 : ∀ (n : Nat) (x2_22 : Int32) (x3_22 : Int32) (x4_22 : Int32) (a_y0_22 : Nat → Nat → Nat) (ra_y0_22 : Nat → Nat → Nat) (V_y0_22 : DV) (H : Heap) (locs : List Loc) (ls : Array Slot) (cl sl : Nat), cl + zbud 1 n ≤ 215 → sl + zbud 6 n ≤ 2109 → wpL_begun_L22 z_len z_txt post n x2_22 x3_22 x4_22 a_y0_22 ra_y0_22 V_y0_22 → va_P g.1 vwCl (List.flatten [kDW g a_y0_22 ra_y0_22 V_y0_22]) H → va_D A (List.flatten [kDW g a_y0_22 ra_y0_22 V_y0_22]) → va_S A s.heap H locs → lv_has ls 5 [(0, .ref (t.1 60)), (1, .ref (a_y0_22 0 0)), (2, .int x2_22), (3, .int x3_22), (4, .int x4_22)] → W p l e rmL_begun s m (([.ref (t.1 60)] : List Value).toArray) below meth c H locs cl sl Q (F0 m 22 ls []) := by
    intro n_22
    induction n_22 with
    | zero => intro x2_22 x3_22 x4_22 a_y0_22 ra_y0_22 V_y0_22 H locs ls cl sl _ _ hw; exact False.elim hw
    | succ n_22 ih_22 =>
      intro x2_22 x3_22 x4_22 a_y0_22 ra_y0_22 V_y0_22 H locs ls cl_22 sl_22 hc_22 hs_22 hw hP hD hS hl
      have hc_22 := zbud_s hc_22
      have hs_22 := zbud_s hs_22
      refine lv_iload hx hb dL_begun_22 (lv_at hl 4 rfl) ?_
      refine lv_bipush (v := 9) hx hb dL_begun_24 (by decide) ?_
      refine lv_icmp_ge (tgt := 88) hx hb dL_begun_26 (by decide) (fun c_26 => ?_) (fun c_26 => ?_)
      · have hw := hw.1 c_26
        refine lv_iload_n hx hb dL_begun_88 rfl (lv_at hl 2 rfl) ?_
        refine lv_aload_n hx hb dL_begun_89 rfl (lv_at hl 1 rfl) ?_
        refine lv_iconst (v := 0) hx hb dL_begun_90 (by decide) ?_
        refine lv_iconst (v := 1) hx hb dL_begun_91 (by decide) ?_
        refine lv_bipush (v := 97) hx hb dL_begun_92 (by decide) ?_
        refine lv_iconst (v := 3) hx hb dL_begun_94 (by decide) ?_
        refine gCi1 (bs := [kDW g a_y0_22 ra_y0_22 V_y0_22]) (wf := (fun v => [kDW g a_y0_22 ra_y0_22 v])) (gRunSWL (As := [.ref (a_y0_22 0 0), .int 0, .int 1, .int 97, .int 3]) (rest := [.int x2_22]) ⟨hx, hb, hml, hown, hts⟩ (gMetL (ctL_addStreet l hl0 g t a_y0_22 ra_y0_22 _ V_y0_22 0 1 97 3 hw)) (vx_cwSW 5 hts (goodF gS_L_addStreet) rfl rfl rfl (by decide +kernel) ⟨Nat.le_of_ble_eq_true rfl, Nat.le_of_ble_eq_true rfl⟩) hE hN hX hS (gFree (bs := [kDW g a_y0_22 ra_y0_22 V_y0_22]) hD hS hA [0]) (gSub (bs := [kDW g a_y0_22 ra_y0_22 V_y0_22]) hP [0]) (gDSub (bs := [kDW g a_y0_22 ra_y0_22 V_y0_22]) hD [0] rfl) rfl rfl hl.1 rfl (lv_room (Nat.le_of_ble_eq_true rfl)) dL_begun_95 ⟨(by show _ ≤ 229; omega), (by show _ ≤ 2193; omega)⟩) hP hD hS hA [0] rfl (fun _ => rfl) rfl (fun r2 V_v2 H locs hw hP hD hS => ?_)
        have hP : va_P g.1 vwCl (List.flatten [kDW g a_y0_22 ra_y0_22 V_v2]) H := hP
        have hD : va_D A (List.flatten [kDW g a_y0_22 ra_y0_22 V_v2]) := hD
        refine lv_aload_n hx hb dL_begun_98 rfl (lv_at hl 1 rfl) ?_
        refine lv_aload_n hx hb dL_begun_99 rfl (lv_at hl 0 rfl) ?_
        refine lv_bipush (v := 37) hx hb dL_begun_100 (by decide) ?_
        refine lv_bipush (v := 8) hx hb dL_begun_102 (by decide) ?_
        refine gCi0 (bs := [kDW g a_y0_22 ra_y0_22 V_v2]) (wf := ([] : List va_W)) (gRunSL (As := [.ref (t.1 60), .int 37, .int 8]) (rest := [.ref (a_y0_22 0 0), .int r2, .int x2_22]) ⟨hx, hb, hml, hown, hts⟩ (ctL_in l hl0 g t _ z_len z_txt hgz 37 8 hw) (va_cwS 3 hts (goodF gS_L_in) rfl rfl rfl (by decide +kernel) ⟨Nat.le_of_ble_eq_true rfl, Nat.le_of_ble_eq_true rfl⟩) hE hN hX hS (gFree (bs := [kDW g a_y0_22 ra_y0_22 V_v2]) hD hS hA []) (gSub (bs := [kDW g a_y0_22 ra_y0_22 V_v2]) hP []) (gDSub (bs := [kDW g a_y0_22 ra_y0_22 V_v2]) hD [] rfl) rfl rfl hl.1 rfl (lv_room (Nat.le_of_ble_eq_true rfl)) dL_begun_104 ⟨(by show _ ≤ 229; omega), (by show _ ≤ 2193; omega)⟩) hP hD hS hA [] rfl rfl rfl (fun r3 H locs hw hP hD hS => ?_)
        have hP : va_P g.1 vwCl (List.flatten [kDW g a_y0_22 ra_y0_22 V_v2]) H := hP
        have hD : va_D A (List.flatten [kDW g a_y0_22 ra_y0_22 V_v2]) := hD
        refine gCi1 (bs := [kDW g a_y0_22 ra_y0_22 V_v2]) (wf := (fun v => [kDW g a_y0_22 ra_y0_22 v])) (gRunSWL (As := [.ref (a_y0_22 0 0), .int r3]) (rest := [.int r2, .int x2_22]) ⟨hx, hb, hml, hown, hts⟩ (gMetL (ctL_addPlough l hl0 g t a_y0_22 ra_y0_22 _ V_v2 r3 hw)) (vx_cwSW 2 hts (goodF gS_L_addPlough) rfl rfl rfl (by decide +kernel) ⟨Nat.le_of_ble_eq_true rfl, Nat.le_of_ble_eq_true rfl⟩) hE hN hX hS (gFree (bs := [kDW g a_y0_22 ra_y0_22 V_v2]) hD hS hA [0]) (gSub (bs := [kDW g a_y0_22 ra_y0_22 V_v2]) hP [0]) (gDSub (bs := [kDW g a_y0_22 ra_y0_22 V_v2]) hD [0] rfl) rfl rfl hl.1 rfl (lv_room (Nat.le_of_ble_eq_true rfl)) dL_begun_107 ⟨(by show _ ≤ 229; omega), (by show _ ≤ 2193; omega)⟩) hP hD hS hA [0] rfl (fun _ => rfl) rfl (fun r4 V_v4 H locs hw hP hD hS => ?_)
        have hP : va_P g.1 vwCl (List.flatten [kDW g a_y0_22 ra_y0_22 V_v4]) H := hP
        have hD : va_D A (List.flatten [kDW g a_y0_22 ra_y0_22 V_v4]) := hD
        refine lv_iadd hx hb dL_begun_110 ?_
        refine lv_aload_n hx hb dL_begun_111 rfl (lv_at hl 1 rfl) ?_
        refine lv_aload_n hx hb dL_begun_112 rfl (lv_at hl 0 rfl) ?_
        refine lv_bipush (v := 38) hx hb dL_begun_113 (by decide) ?_
        refine lv_iload_n hx hb dL_begun_115 rfl (lv_at hl 3 rfl) ?_
        refine gCi0 (bs := [kDW g a_y0_22 ra_y0_22 V_v4]) (wf := ([] : List va_W)) (gRunSL (As := [.ref (t.1 60), .int 38, .int x3_22]) (rest := [.ref (a_y0_22 0 0), .int (r2 + r4), .int x2_22]) ⟨hx, hb, hml, hown, hts⟩ (ctL_in l hl0 g t _ z_len z_txt hgz 38 x3_22 hw) (va_cwS 3 hts (goodF gS_L_in) rfl rfl rfl (by decide +kernel) ⟨Nat.le_of_ble_eq_true rfl, Nat.le_of_ble_eq_true rfl⟩) hE hN hX hS (gFree (bs := [kDW g a_y0_22 ra_y0_22 V_v4]) hD hS hA []) (gSub (bs := [kDW g a_y0_22 ra_y0_22 V_v4]) hP []) (gDSub (bs := [kDW g a_y0_22 ra_y0_22 V_v4]) hD [] rfl) rfl rfl hl.1 rfl (lv_room (Nat.le_of_ble_eq_true rfl)) dL_begun_116 ⟨(by show _ ≤ 229; omega), (by show _ ≤ 2193; omega)⟩) hP hD hS hA [] rfl rfl rfl (fun r5 H locs hw hP hD hS => ?_)
        have hP : va_P g.1 vwCl (List.flatten [kDW g a_y0_22 ra_y0_22 V_v4]) H := hP
        have hD : va_D A (List.flatten [kDW g a_y0_22 ra_y0_22 V_v4]) := hD
        refine gCi1 (bs := [kDW g a_y0_22 ra_y0_22 V_v4]) (wf := (fun v => [kDW g a_y0_22 ra_y0_22 v])) (gRunSWL (As := [.ref (a_y0_22 0 0), .int r5]) (rest := [.int (r2 + r4), .int x2_22]) ⟨hx, hb, hml, hown, hts⟩ (gMetL (ctL_addPlough l hl0 g t a_y0_22 ra_y0_22 _ V_v4 r5 hw)) (vx_cwSW 2 hts (goodF gS_L_addPlough) rfl rfl rfl (by decide +kernel) ⟨Nat.le_of_ble_eq_true rfl, Nat.le_of_ble_eq_true rfl⟩) hE hN hX hS (gFree (bs := [kDW g a_y0_22 ra_y0_22 V_v4]) hD hS hA [0]) (gSub (bs := [kDW g a_y0_22 ra_y0_22 V_v4]) hP [0]) (gDSub (bs := [kDW g a_y0_22 ra_y0_22 V_v4]) hD [0] rfl) rfl rfl hl.1 rfl (lv_room (Nat.le_of_ble_eq_true rfl)) dL_begun_119 ⟨(by show _ ≤ 229; omega), (by show _ ≤ 2193; omega)⟩) hP hD hS hA [0] rfl (fun _ => rfl) rfl (fun r6 V_v6 H locs hw hP hD hS => ?_)
        have hP : va_P g.1 vwCl (List.flatten [kDW g a_y0_22 ra_y0_22 V_v6]) H := hP
        have hD : va_D A (List.flatten [kDW g a_y0_22 ra_y0_22 V_v6]) := hD
        refine lv_iadd hx hb dL_begun_122 ?_
        refine lv_iadd hx hb dL_begun_123 ?_
        refine lv_istore_n (lv' := [(2, .int (x2_22 + ((r2 + r4) + r6))), (0, .ref (t.1 60)), (1, .ref (a_y0_22 0 0)), (3, .int x3_22), (4, .int x4_22)]) hx hb dL_begun_124 rfl hl (by decide) rfl (fun ls hl => ?_)
        refine lv_iconst (v := 0) hx hb dL_begun_125 (by decide) ?_
        refine lv_istore (lv' := [(4, .int 0), (2, .int (x2_22 + ((r2 + r4) + r6))), (0, .ref (t.1 60)), (1, .ref (a_y0_22 0 0)), (3, .int x3_22)]) hx hb dL_begun_126 hl (by decide) rfl (fun ls hl => ?_)
        obtain ⟨n, hn, hw⟩ := hw
        have hbc := zbud_le (a := 1) hn
        have hbs := zbud_le (a := 6) hn
        have hbc : zbud 1 n ≤ 6 := hbc
        have hbs : zbud 6 n ≤ 36 := hbs
        exact L128 n (x2_22 + ((r2 + r4) + r6)) 0 a_y0_22 ra_y0_22 V_v6 _ _ _ _ _ (by omega) (by omega) hw hP hD hS (lv_sub hl [2, 3, 1, 0] rfl)
      · have hw := hw.2 c_26
        refine lv_iload_n hx hb dL_begun_29 rfl (lv_at hl 2 rfl) ?_
        refine lv_aload_n hx hb dL_begun_30 rfl (lv_at hl 1 rfl) ?_
        refine lv_aload_n hx hb dL_begun_31 rfl (lv_at hl 0 rfl) ?_
        refine lv_iconst (v := 1) hx hb dL_begun_32 (by decide) ?_
        refine lv_iload hx hb dL_begun_33 (lv_at hl 4 rfl) ?_
        refine lv_iadd hx hb dL_begun_35 ?_
        refine lv_iload_n hx hb dL_begun_36 rfl (lv_at hl 3 rfl) ?_
        refine gCi0 (bs := [kDW g a_y0_22 ra_y0_22 V_y0_22]) (wf := ([] : List va_W)) (gRunSL (As := [.ref (t.1 60), .int (1 + x4_22), .int x3_22]) (rest := [.ref (a_y0_22 0 0), .int x2_22]) ⟨hx, hb, hml, hown, hts⟩ (ctL_in l hl0 g t _ z_len z_txt hgz (1 + x4_22) x3_22 hw) (va_cwS 3 hts (goodF gS_L_in) rfl rfl rfl (by decide +kernel) ⟨Nat.le_of_ble_eq_true rfl, Nat.le_of_ble_eq_true rfl⟩) hE hN hX hS (gFree (bs := [kDW g a_y0_22 ra_y0_22 V_y0_22]) hD hS hA []) (gSub (bs := [kDW g a_y0_22 ra_y0_22 V_y0_22]) hP []) (gDSub (bs := [kDW g a_y0_22 ra_y0_22 V_y0_22]) hD [] rfl) rfl rfl hl.1 rfl (lv_room (Nat.le_of_ble_eq_true rfl)) dL_begun_37 ⟨(by show _ ≤ 229; omega), (by show _ ≤ 2193; omega)⟩) hP hD hS hA [] rfl rfl rfl (fun r21 H locs hw hP hD hS => ?_)
        have hP : va_P g.1 vwCl (List.flatten [kDW g a_y0_22 ra_y0_22 V_y0_22]) H := hP
        have hD : va_D A (List.flatten [kDW g a_y0_22 ra_y0_22 V_y0_22]) := hD
        refine lv_aload_n hx hb dL_begun_40 rfl (lv_at hl 0 rfl) ?_
        refine lv_bipush (v := 10) hx hb dL_begun_41 (by decide) ?_
        refine lv_iload hx hb dL_begun_43 (lv_at hl 4 rfl) ?_
        refine lv_iadd hx hb dL_begun_45 ?_
        refine lv_iload_n hx hb dL_begun_46 rfl (lv_at hl 3 rfl) ?_
        refine gCi0 (bs := [kDW g a_y0_22 ra_y0_22 V_y0_22]) (wf := ([] : List va_W)) (gRunSL (As := [.ref (t.1 60), .int (10 + x4_22), .int x3_22]) (rest := [.int r21, .ref (a_y0_22 0 0), .int x2_22]) ⟨hx, hb, hml, hown, hts⟩ (ctL_in l hl0 g t _ z_len z_txt hgz (10 + x4_22) x3_22 hw) (va_cwS 3 hts (goodF gS_L_in) rfl rfl rfl (by decide +kernel) ⟨Nat.le_of_ble_eq_true rfl, Nat.le_of_ble_eq_true rfl⟩) hE hN hX hS (gFree (bs := [kDW g a_y0_22 ra_y0_22 V_y0_22]) hD hS hA []) (gSub (bs := [kDW g a_y0_22 ra_y0_22 V_y0_22]) hP []) (gDSub (bs := [kDW g a_y0_22 ra_y0_22 V_y0_22]) hD [] rfl) rfl rfl hl.1 rfl (lv_room (Nat.le_of_ble_eq_true rfl)) dL_begun_47 ⟨(by show _ ≤ 229; omega), (by show _ ≤ 2193; omega)⟩) hP hD hS hA [] rfl rfl rfl (fun r22 H locs hw hP hD hS => ?_)
        have hP : va_P g.1 vwCl (List.flatten [kDW g a_y0_22 ra_y0_22 V_y0_22]) H := hP
        have hD : va_D A (List.flatten [kDW g a_y0_22 ra_y0_22 V_y0_22]) := hD
        refine lv_bipush (v := 97) hx hb dL_begun_50 (by decide) ?_
        refine lv_aload_n hx hb dL_begun_52 rfl (lv_at hl 0 rfl) ?_
        refine lv_bipush (v := 19) hx hb dL_begun_53 (by decide) ?_
        refine lv_iload hx hb dL_begun_55 (lv_at hl 4 rfl) ?_
        refine lv_iadd hx hb dL_begun_57 ?_
        refine lv_iconst (v := 3) hx hb dL_begun_58 (by decide) ?_
        refine gCi0 (bs := [kDW g a_y0_22 ra_y0_22 V_y0_22]) (wf := ([] : List va_W)) (gRunSL (As := [.ref (t.1 60), .int (19 + x4_22), .int 3]) (rest := [.int 97, .int r22, .int r21, .ref (a_y0_22 0 0), .int x2_22]) ⟨hx, hb, hml, hown, hts⟩ (ctL_in l hl0 g t _ z_len z_txt hgz (19 + x4_22) 3 hw) (va_cwS 3 hts (goodF gS_L_in) rfl rfl rfl (by decide +kernel) ⟨Nat.le_of_ble_eq_true rfl, Nat.le_of_ble_eq_true rfl⟩) hE hN hX hS (gFree (bs := [kDW g a_y0_22 ra_y0_22 V_y0_22]) hD hS hA []) (gSub (bs := [kDW g a_y0_22 ra_y0_22 V_y0_22]) hP []) (gDSub (bs := [kDW g a_y0_22 ra_y0_22 V_y0_22]) hD [] rfl) rfl rfl hl.1 rfl (lv_room (Nat.le_of_ble_eq_true rfl)) dL_begun_59 ⟨(by show _ ≤ 229; omega), (by show _ ≤ 2193; omega)⟩) hP hD hS hA [] rfl rfl rfl (fun r23 H locs hw hP hD hS => ?_)
        have hP : va_P g.1 vwCl (List.flatten [kDW g a_y0_22 ra_y0_22 V_y0_22]) H := hP
        have hD : va_D A (List.flatten [kDW g a_y0_22 ra_y0_22 V_y0_22]) := hD
        refine lv_iadd hx hb dL_begun_62 ?_
        refine lv_i2c (v := ((97 + r23).toUInt32 % 65536).toInt32) hx hb dL_begun_63 rfl ?_
        refine lv_iconst (v := 1) hx hb dL_begun_64 (by decide) ?_
        refine lv_aload_n hx hb dL_begun_65 rfl (lv_at hl 0 rfl) ?_
        refine lv_bipush (v := 28) hx hb dL_begun_66 (by decide) ?_
        refine lv_iload hx hb dL_begun_68 (lv_at hl 4 rfl) ?_
        refine lv_iadd hx hb dL_begun_70 ?_
        refine lv_bipush (v := 6) hx hb dL_begun_71 (by decide) ?_
        refine gCi0 (bs := [kDW g a_y0_22 ra_y0_22 V_y0_22]) (wf := ([] : List va_W)) (gRunSL (As := [.ref (t.1 60), .int (28 + x4_22), .int 6]) (rest := [.int 1, .int (((97 + r23).toUInt32 % 65536).toInt32), .int r22, .int r21, .ref (a_y0_22 0 0), .int x2_22]) ⟨hx, hb, hml, hown, hts⟩ (ctL_in l hl0 g t _ z_len z_txt hgz (28 + x4_22) 6 hw) (va_cwS 3 hts (goodF gS_L_in) rfl rfl rfl (by decide +kernel) ⟨Nat.le_of_ble_eq_true rfl, Nat.le_of_ble_eq_true rfl⟩) hE hN hX hS (gFree (bs := [kDW g a_y0_22 ra_y0_22 V_y0_22]) hD hS hA []) (gSub (bs := [kDW g a_y0_22 ra_y0_22 V_y0_22]) hP []) (gDSub (bs := [kDW g a_y0_22 ra_y0_22 V_y0_22]) hD [] rfl) rfl rfl hl.1 rfl (lv_room (Nat.le_of_ble_eq_true rfl)) dL_begun_73 ⟨(by show _ ≤ 229; omega), (by show _ ≤ 2193; omega)⟩) hP hD hS hA [] rfl rfl rfl (fun r24 H locs hw hP hD hS => ?_)
        have hP : va_P g.1 vwCl (List.flatten [kDW g a_y0_22 ra_y0_22 V_y0_22]) H := hP
        have hD : va_D A (List.flatten [kDW g a_y0_22 ra_y0_22 V_y0_22]) := hD
        refine lv_iadd hx hb dL_begun_76 ?_
        refine gCi1 (bs := [kDW g a_y0_22 ra_y0_22 V_y0_22]) (wf := (fun v => [kDW g a_y0_22 ra_y0_22 v])) (gRunSWL (As := [.ref (a_y0_22 0 0), .int r21, .int r22, .int (((97 + r23).toUInt32 % 65536).toInt32), .int (1 + r24)]) (rest := [.int x2_22]) ⟨hx, hb, hml, hown, hts⟩ (gMetL (ctL_addStreet l hl0 g t a_y0_22 ra_y0_22 _ V_y0_22 r21 r22 (((97 + r23).toUInt32 % 65536).toInt32) (1 + r24) hw)) (vx_cwSW 5 hts (goodF gS_L_addStreet) rfl rfl rfl (by decide +kernel) ⟨Nat.le_of_ble_eq_true rfl, Nat.le_of_ble_eq_true rfl⟩) hE hN hX hS (gFree (bs := [kDW g a_y0_22 ra_y0_22 V_y0_22]) hD hS hA [0]) (gSub (bs := [kDW g a_y0_22 ra_y0_22 V_y0_22]) hP [0]) (gDSub (bs := [kDW g a_y0_22 ra_y0_22 V_y0_22]) hD [0] rfl) rfl rfl hl.1 rfl (lv_room (Nat.le_of_ble_eq_true rfl)) dL_begun_77 ⟨(by show _ ≤ 229; omega), (by show _ ≤ 2193; omega)⟩) hP hD hS hA [0] rfl (fun _ => rfl) rfl (fun r25 V_v25 H locs hw hP hD hS => ?_)
        have hP : va_P g.1 vwCl (List.flatten [kDW g a_y0_22 ra_y0_22 V_v25]) H := hP
        have hD : va_D A (List.flatten [kDW g a_y0_22 ra_y0_22 V_v25]) := hD
        refine lv_iadd hx hb dL_begun_80 ?_
        refine lv_istore_n (lv' := [(2, .int (x2_22 + r25)), (0, .ref (t.1 60)), (1, .ref (a_y0_22 0 0)), (3, .int x3_22), (4, .int x4_22)]) hx hb dL_begun_81 rfl hl (by decide) rfl (fun ls hl => ?_)
        refine lv_iinc (v := (x4_22 + 1)) (lv' := [(4, .int (x4_22 + 1)), (2, .int (x2_22 + r25)), (0, .ref (t.1 60)), (1, .ref (a_y0_22 0 0)), (3, .int x3_22)]) hx hb dL_begun_82 hl (k := 4) rfl rfl (by decide) rfl (fun ls hl => ?_)
        refine lv_goto (tgt := 22) hx hb dL_begun_85 (by decide) ?_
        exact ih_22 (x2_22 + r25) x3_22 (x4_22 + 1) a_y0_22 ra_y0_22 V_v25 _ _ _ _ _ (by omega) (by omega) hw hP hD hS (lv_sub hl [2, 3, 1, 4, 0] rfl)
  refine zz_newDW (own := RL) hx hb hml hown hts (fun w h => (goodF gZ0 w h).1) (hts _ (lwM tw819)) (hts _ (lwM tw820)) (hts _ (lwM tw0)) (hts _ (lwM tw821)) (hts _ (lwM tw822)) (goodF gK_wsX6_init) hE hN.1 hX hP hD hS hA hl.1 (fun _ => Nat.le_of_ble_eq_true rfl) ⟨Nat.le_of_ble_eq_true rfl, Nat.le_of_ble_eq_true rfl⟩ (by show _ ≤ 229; omega) (by show _ ≤ 2193; omega) dL_begun_0 dL_begun_3 dL_begun_4 (fun a_y0 ra_y0 b1_y0 b2_y0 H locs hP hD hS => ?_)
  have hP : va_P g.1 vwCl (List.flatten [kDW g a_y0 ra_y0 (zDV0 b1_y0 b2_y0)]) H := hP
  have hD : va_D A (List.flatten [kDW g a_y0 ra_y0 (zDV0 b1_y0 b2_y0)]) := hD
  have hw := hw a_y0 ra_y0 b1_y0 b2_y0
  refine lv_astore_n (lv' := [(1, .ref (a_y0 0 0)), (0, .ref (t.1 60))]) hx hb dL_begun_7 rfl hl (by decide) rfl (fun ls hl => ?_)
  refine lv_iconst (v := 0) hx hb dL_begun_8 (by decide) ?_
  refine lv_istore_n (lv' := [(2, .int 0), (1, .ref (a_y0 0 0)), (0, .ref (t.1 60))]) hx hb dL_begun_9 rfl hl (by decide) rfl (fun ls hl => ?_)
  refine lv_iconst (v := 4) hx hb dL_begun_10 (by decide) ?_
  refine lv_aload_n hx hb dL_begun_11 rfl (lv_at hl 2 rfl) ?_
  refine lv_iconst (v := 0) hx hb dL_begun_12 (by decide) ?_
  refine lv_iconst (v := 5) hx hb dL_begun_13 (by decide) ?_
  refine gCi0 (bs := [kDW g a_y0 ra_y0 (zDV0 b1_y0 b2_y0)]) (wf := ([] : List va_W)) (gRunSL (As := [.ref (t.1 60), .int 0, .int 5]) (rest := [.int 4]) ⟨hx, hb, hml, hown, hts⟩ (ctL_in l hl0 g t _ z_len z_txt hgz 0 5 hw) (va_cwS 3 hts (goodF gS_L_in) rfl rfl rfl (by decide +kernel) ⟨Nat.le_of_ble_eq_true rfl, Nat.le_of_ble_eq_true rfl⟩) hE hN hX hS (gFree (bs := [kDW g a_y0 ra_y0 (zDV0 b1_y0 b2_y0)]) hD hS hA []) (gSub (bs := [kDW g a_y0 ra_y0 (zDV0 b1_y0 b2_y0)]) hP []) (gDSub (bs := [kDW g a_y0 ra_y0 (zDV0 b1_y0 b2_y0)]) hD [] rfl) rfl rfl hl.1 rfl (lv_room (Nat.le_of_ble_eq_true rfl)) dL_begun_14 ⟨(by show _ ≤ 229; omega), (by show _ ≤ 2193; omega)⟩) hP hD hS hA [] rfl rfl rfl (fun r1 H locs hw hP hD hS => ?_)
  have hP : va_P g.1 vwCl (List.flatten [kDW g a_y0 ra_y0 (zDV0 b1_y0 b2_y0)]) H := hP
  have hD : va_D A (List.flatten [kDW g a_y0 ra_y0 (zDV0 b1_y0 b2_y0)]) := hD
  refine lv_iadd hx hb dL_begun_17 ?_
  refine lv_istore_n (lv' := [(3, .int (4 + r1)), (2, .int 0), (1, .ref (a_y0 0 0)), (0, .ref (t.1 60))]) hx hb dL_begun_18 rfl hl (by decide) rfl (fun ls hl => ?_)
  refine lv_iconst (v := 0) hx hb dL_begun_19 (by decide) ?_
  refine lv_istore (lv' := [(4, .int 0), (3, .int (4 + r1)), (2, .int 0), (1, .ref (a_y0 0 0)), (0, .ref (t.1 60))]) hx hb dL_begun_20 hl (by decide) rfl (fun ls hl => ?_)
  obtain ⟨n, hn, hw⟩ := hw
  have hbc := zbud_le (a := 1) hn
  have hbs := zbud_le (a := 6) hn
  have hbc : zbud 1 n ≤ 10 := hbc
  have hbs : zbud 6 n ≤ 60 := hbs
  exact L22 n 0 (4 + r1) 0 a_y0 ra_y0 (zDV0 b1_y0 b2_y0) _ _ _ _ _ (by omega) (by omega) hw hP hD hS (lv_sub hl [4, 3, 2, 1, 0] rfl)
