/-! the law's walk: by program (wip/p56/gen/law2.py) -/
abbrev wsZ_law : List Cond := .initialized RX6 :: lwF
set_option maxHeartbeats 8000000 in
set_option maxRecDepth 100000 in
theorem zz_law {p : Program} {l : Launch} {e : Env} {s : State} {m : MethodId} {below : List Frame} {meth : Method} {c : Code} {ls : Array Slot} {A : Nat → Prop} (hl0 : l.stackTraces = false) (g : GG) (t : GT) (z_len : Nat) (z_txt : Nat → Int32) (hgz : t.1 61 = z_len ∧ zxs t = z_txt) {post : Int32 → Prop} (hpost : ∀ r, post r → r = 1) (hw : wpL_law z_len z_txt post) (hx : p.tables.exec = Jvm.exec) (hb : c.code = cL_law) (hr : meth.sig.returnType = ret) (hml : c.maxLocals = 5) (hts : ∀ w ∈ wsZ_law, w.before (([.ref (t.1 60)] : List Value).toArray) s = true) (hown : s.vm.findClass RL = some m.cls) (hlocks : meth.locks = false) (hE : gE g s) (hP : va_P g.1 vwCl (List.flatten ([] : List va_W)) s.heap) (hD : va_D A (List.flatten ([] : List va_W))) (hA0 : ∀ q, A q → s.heap.size ≤ q) (hA : ∀ q, s.heap.size ≤ q → A q) (hS : va_S A s.heap s.heap []) (hl : lv_has ls 5 [(0, .ref (t.1 60))]) (hX : gX t A s s.heap) (hN : gNL s) {Q : State → Prop} (hQ : Q = lw_Z below #[Value.ref (t.1 60)] s) : W p l e room_1 s m (([.ref (t.1 60)] : List Value).toArray) below meth c s.heap [] 0 0 Q (F0 m 0 ls []) := by
  have L20 : ∀ (n : Nat) (x2_20 : Int32) (a_y1_20 : Nat → Nat → Nat) (ra_y1_20 : Nat → Nat → Nat) (V_y1_20 : DV) (H : Heap) (locs : List Loc) (ls : Array Slot) (cl sl : Nat), cl + zbud 1409 n ≤ 13745 → sl + zbud 18646 n ≤ 175035 → wpL_law_L20 z_len z_txt post n x2_20 a_y1_20 ra_y1_20 V_y1_20 → va_P g.1 vwCl (List.flatten [kDW g a_y1_20 ra_y1_20 V_y1_20]) H → va_D A (List.flatten [kDW g a_y1_20 ra_y1_20 V_y1_20]) → va_S A s.heap H locs → lv_has ls 5 [(0, .ref (t.1 60)), (1, .ref (a_y1_20 0 0)), (2, .int x2_20)] → W p l e room_1 s m (([.ref (t.1 60)] : List Value).toArray) below meth c H locs cl sl Q (F0 m 20 ls []) := by
    intro n_20
    induction n_20 with
    | zero => intro x2_20 a_y1_20 ra_y1_20 V_y1_20 H locs ls cl sl _ _ hw; exact False.elim hw
    | succ n_20 ih_20 =>
      intro x2_20 a_y1_20 ra_y1_20 V_y1_20 H locs ls cl_20 sl_20 hc_20 hs_20 hw hP hD hS hl
      have hc_20 := zbud_s hc_20
      have hs_20 := zbud_s hs_20
      have J79 : ∀ (x2_79 : Int32) (x4_79 : Int32) (a_y1_79 : Nat → Nat → Nat) (ra_y1_79 : Nat → Nat → Nat) (V_y1_79 : DV) (at_y27_79 : Nat → Nat) (f_y27_79 : Nat → Int32) (H : Heap) (locs : List Loc) (ls : Array Slot) (cl sl : Nat), cl ≤ cl_20 + 1236 → sl ≤ sl_20 + 17454 → wpL_law_L79 z_len z_txt (wpL_law_L20 z_len z_txt post n_20) post x2_79 x4_79 a_y1_79 ra_y1_79 V_y1_79 at_y27_79 f_y27_79 → va_P g.1 vwCl (List.flatten [kDW g a_y1_79 ra_y1_79 V_y1_79, kAr g at_y27_79 160 f_y27_79]) H → va_D A (List.flatten [kDW g a_y1_79 ra_y1_79 V_y1_79, kAr g at_y27_79 160 f_y27_79]) → va_S A s.heap H locs → lv_has ls 5 [(0, .ref (t.1 60)), (1, .ref (a_y1_79 0 0)), (2, .int x2_79), (3, .ref (at_y27_79 0)), (4, .int x4_79)] → W p l e room_1 s m (([.ref (t.1 60)] : List Value).toArray) below meth c H locs cl sl Q (F0 m 79 ls []) := by
        intro x2_79 x4_79 a_y1_79 ra_y1_79 V_y1_79 at_y27_79 f_y27_79 H locs ls cl_79 sl_79 hc_79 hs_79 hw hP hD hS hl
        unfold wpL_law_L79 at hw
        refine lv_iload hx hb dL_law_79 (lv_at hl 4 rfl) ?_
        refine lv_ldcw (v := (-900000)) hx hb hown (hts _ (lwM tw1061)) dL_law_81 ?_
        refine lv_icmp_le (tgt := 119) hx hb dL_law_84 (by decide) (fun c_84 => ?_) (fun c_84 => ?_)
        · have hw := hw.1 c_84
          refine lv_iinc (v := (x2_79 + 1)) (lv' := [(2, .int (x2_79 + 1)), (0, .ref (t.1 60)), (1, .ref (a_y1_79 0 0)), (3, .ref (at_y27_79 0)), (4, .int x4_79)]) hx hb dL_law_119 hl (k := 2) rfl rfl (by decide) rfl (fun ls hl => ?_)
          refine lv_goto (tgt := 20) hx hb dL_law_122 (by decide) ?_
          have hP := gSub hP [0]
          have hD := gDSub hD [0] rfl
          exact ih_20 (x2_79 + 1) a_y1_79 ra_y1_79 V_y1_79 _ _ _ _ _ (by omega) (by omega) hw hP hD hS (lv_sub hl [1, 2, 0] rfl)
        · have hw := hw.2 c_84
          refine lv_aload_n hx hb dL_law_87 rfl (lv_at hl 0 rfl) ?_
          refine lv_bipush (v := 87) hx hb dL_law_88 (by decide) ?_
          refine lv_iload_n hx hb dL_law_90 rfl (lv_at hl 2 rfl) ?_
          refine lv_iadd hx hb dL_law_91 ?_
          refine lv_iconst (v := 5) hx hb dL_law_92 (by decide) ?_
          refine gCi0 (bs := [kDW g a_y1_79 ra_y1_79 V_y1_79, kAr g at_y27_79 160 f_y27_79]) (wf := ([] : List va_W)) (gRunSL (As := [.ref (t.1 60), .int (87 + x2_79), .int 5]) (rest := []) ⟨hx, hb, hml, hown, hts⟩ (ctL_in l hl0 g t _ z_len z_txt hgz (87 + x2_79) 5 hw) (va_cwS 3 hts (goodF gS_L_in) rfl rfl rfl (by decide +kernel) ⟨Nat.le_of_ble_eq_true rfl, Nat.le_of_ble_eq_true rfl⟩) hE hN hX hS (gFree (bs := [kDW g a_y1_79 ra_y1_79 V_y1_79, kAr g at_y27_79 160 f_y27_79]) hD hS hA []) (gSub (bs := [kDW g a_y1_79 ra_y1_79 V_y1_79, kAr g at_y27_79 160 f_y27_79]) hP []) (gDSub (bs := [kDW g a_y1_79 ra_y1_79 V_y1_79, kAr g at_y27_79 160 f_y27_79]) hD [] rfl) rfl rfl hl.1 rfl (lv_room (Nat.le_of_ble_eq_true rfl)) dL_law_93 ⟨(by show _ ≤ 780285; omega), (by show _ ≤ 6751825; omega)⟩) hP hD hS hA [] rfl rfl rfl (fun r24 H locs hw hP hD hS => ?_)
          have hP : va_P g.1 vwCl (List.flatten [kDW g a_y1_79 ra_y1_79 V_y1_79, kAr g at_y27_79 160 f_y27_79]) H := hP
          have hD : va_D A (List.flatten [kDW g a_y1_79 ra_y1_79 V_y1_79, kAr g at_y27_79 160 f_y27_79]) := hD
          refine lv_if_ne (tgt := 119) hx hb dL_law_96 (by decide) (fun c_96 => ?_) (fun c_96 => ?_)
          · have hw := hw.1 c_96
            refine lv_iinc (v := (x2_79 + 1)) (lv' := [(2, .int (x2_79 + 1)), (0, .ref (t.1 60)), (1, .ref (a_y1_79 0 0)), (3, .ref (at_y27_79 0)), (4, .int x4_79)]) hx hb dL_law_119 hl (k := 2) rfl rfl (by decide) rfl (fun ls hl => ?_)
            refine lv_goto (tgt := 20) hx hb dL_law_122 (by decide) ?_
            have hP := gSub hP [0]
            have hD := gDSub hD [0] rfl
            exact ih_20 (x2_79 + 1) a_y1_79 ra_y1_79 V_y1_79 _ _ _ _ _ (by omega) (by omega) hw hP hD hS (lv_sub hl [1, 2, 0] rfl)
          · have hw := hw.2 c_96
            refine lv_aload_n hx hb dL_law_99 rfl (lv_at hl 1 rfl) ?_
            refine gCi1 (bs := [kDW g a_y1_79 ra_y1_79 V_y1_79, kAr g at_y27_79 160 f_y27_79]) (wf := (fun v => [kDW g a_y1_79 ra_y1_79 v])) (gRunSWL (As := [.ref (a_y1_79 0 0)]) (rest := []) ⟨hx, hb, hml, hown, hts⟩ (gMetL (ctL_undo l hl0 g t a_y1_79 ra_y1_79 _ V_y1_79 hw)) (vx_cwSW 1 hts (goodF gS_L_undo) rfl rfl rfl (by decide +kernel) ⟨Nat.le_of_ble_eq_true rfl, Nat.le_of_ble_eq_true rfl⟩) hE hN hX hS (gFree (bs := [kDW g a_y1_79 ra_y1_79 V_y1_79, kAr g at_y27_79 160 f_y27_79]) hD hS hA [0]) (gSub (bs := [kDW g a_y1_79 ra_y1_79 V_y1_79, kAr g at_y27_79 160 f_y27_79]) hP [0]) (gDSub (bs := [kDW g a_y1_79 ra_y1_79 V_y1_79, kAr g at_y27_79 160 f_y27_79]) hD [0] rfl) rfl rfl hl.1 rfl (lv_room (Nat.le_of_ble_eq_true rfl)) dL_law_100 ⟨(by show _ ≤ 780285; omega), (by show _ ≤ 6751825; omega)⟩) hP hD hS hA [0] rfl (fun _ => rfl) rfl (fun r25 V_v25 H locs hw hP hD hS => ?_)
            have hP : va_P g.1 vwCl (List.flatten [kDW g a_y1_79 ra_y1_79 V_v25, kAr g at_y27_79 160 f_y27_79]) H := hP
            have hD : va_D A (List.flatten [kDW g a_y1_79 ra_y1_79 V_v25, kAr g at_y27_79 160 f_y27_79]) := hD
            refine lv_if_lt (tgt := 117) hx hb dL_law_103 (by decide) (fun c_103 => ?_) (fun c_103 => ?_)
            · have hw := hw.1 c_103
              refine lv_iconst (v := 0) hx hb dL_law_117 (by decide) ?_
              have hr1 := hpost _ hw
              have hS9 := hS.2.2
              subst hQ
              exact absurd hr1 (by decide)
            · have hw := hw.2 c_103
              refine lv_aload_n hx hb dL_law_106 rfl (lv_at hl 3 rfl) ?_
              refine lv_aload_n hx hb dL_law_107 rfl (lv_at hl 1 rfl) ?_
              have hP : va_P g.1 vwCl (List.flatten [kDW g a_y1_79 ra_y1_79 V_v25, kAr g at_y27_79 160 f_y27_79, ([] : va_W)]) _ := hP
              have hD : va_D A (List.flatten [kDW g a_y1_79 ra_y1_79 V_v25, kAr g at_y27_79 160 f_y27_79, ([] : va_W)]) := hD
              refine gCn (bs := [kDW g a_y1_79 ra_y1_79 V_v25, kAr g at_y27_79 160 f_y27_79, ([] : va_W)]) (ad := (fun w : DV × (Nat → Nat) × (Nat → Int32) => w.2.1 0)) (wf := (fun w : DV × (Nat → Nat) × (Nat → Int32) => [kDW g a_y1_79 ra_y1_79 w.1, kAr g w.2.1 160 w.2.2])) (gRunSL (As := [.ref (a_y1_79 0 0)]) (rest := [.ref (at_y27_79 0)]) ⟨hx, hb, hml, hown, hts⟩ (ctL_seen l hl0 g t a_y1_79 ra_y1_79 V_v25 _ hw) (va_cwS 1 hts (goodF gS_L_seen) rfl rfl rfl (by decide +kernel) ⟨Nat.le_of_ble_eq_true rfl, Nat.le_of_ble_eq_true rfl⟩) hE hN hX hS (gFree (bs := [kDW g a_y1_79 ra_y1_79 V_v25, kAr g at_y27_79 160 f_y27_79, ([] : va_W)]) hD hS hA [0, 2]) (gSub (bs := [kDW g a_y1_79 ra_y1_79 V_v25, kAr g at_y27_79 160 f_y27_79, ([] : va_W)]) hP [0, 2]) (gDSub (bs := [kDW g a_y1_79 ra_y1_79 V_v25, kAr g at_y27_79 160 f_y27_79, ([] : va_W)]) hD [0, 2] rfl) rfl rfl hl.1 rfl (lv_room (Nat.le_of_ble_eq_true rfl)) dL_law_108 ⟨(by show _ ≤ 780285; omega), (by show _ ≤ 6751825; omega)⟩) hP hD hS hA [0, 2] rfl (fun _ => rfl) rfl (fun w H locs hw hP hD hS => ?_)
              obtain ⟨V_y1_v26, at_y108, f_y108⟩ := w
              have hw := hw
              have hP : va_P g.1 vwCl (List.flatten [kDW g a_y1_79 ra_y1_79 V_y1_v26, kAr g at_y27_79 160 f_y27_79, kAr g at_y108 160 f_y108]) H := hP
              have hD : va_D A (List.flatten [kDW g a_y1_79 ra_y1_79 V_y1_v26, kAr g at_y27_79 160 f_y27_79, kAr g at_y108 160 f_y108]) := hD
              refine gCi0 (bs := [kDW g a_y1_79 ra_y1_79 V_y1_v26, kAr g at_y27_79 160 f_y27_79, kAr g at_y108 160 f_y108]) (wf := [kAr g at_y27_79 160 f_y27_79, kAr g at_y108 160 f_y108]) (gRunSL (As := [.ref (at_y27_79 0), .ref (at_y108 0)]) (rest := []) ⟨hx, hb, hml, hown, hts⟩ (ctL_areAlike l hl0 g t at_y27_79 f_y27_79 at_y108 f_y108 _ hw) (va_cwS 2 hts (goodF gS_L_areAlike) rfl rfl rfl (by decide +kernel) ⟨Nat.le_of_ble_eq_true rfl, Nat.le_of_ble_eq_true rfl⟩) hE hN hX hS (gFree (bs := [kDW g a_y1_79 ra_y1_79 V_y1_v26, kAr g at_y27_79 160 f_y27_79, kAr g at_y108 160 f_y108]) hD hS hA [1, 2]) (gSub (bs := [kDW g a_y1_79 ra_y1_79 V_y1_v26, kAr g at_y27_79 160 f_y27_79, kAr g at_y108 160 f_y108]) hP [1, 2]) (gDSub (bs := [kDW g a_y1_79 ra_y1_79 V_y1_v26, kAr g at_y27_79 160 f_y27_79, kAr g at_y108 160 f_y108]) hD [1, 2] rfl) rfl rfl hl.1 rfl (lv_room (Nat.le_of_ble_eq_true rfl)) dL_law_111 ⟨(by show _ ≤ 780285; omega), (by show _ ≤ 6751825; omega)⟩) hP hD hS hA [1, 2] rfl rfl rfl (fun r27 H locs hw hP hD hS => ?_)
              have hP : va_P g.1 vwCl (List.flatten [kDW g a_y1_79 ra_y1_79 V_y1_v26, kAr g at_y27_79 160 f_y27_79, kAr g at_y108 160 f_y108]) H := hP
              have hD : va_D A (List.flatten [kDW g a_y1_79 ra_y1_79 V_y1_v26, kAr g at_y27_79 160 f_y27_79, kAr g at_y108 160 f_y108]) := hD
              refine lv_if_ne (tgt := 119) hx hb dL_law_114 (by decide) (fun c_114 => ?_) (fun c_114 => ?_)
              · have hw := hw.1 c_114
                refine lv_iinc (v := (x2_79 + 1)) (lv' := [(2, .int (x2_79 + 1)), (0, .ref (t.1 60)), (1, .ref (a_y1_79 0 0)), (3, .ref (at_y27_79 0)), (4, .int x4_79)]) hx hb dL_law_119 hl (k := 2) rfl rfl (by decide) rfl (fun ls hl => ?_)
                refine lv_goto (tgt := 20) hx hb dL_law_122 (by decide) ?_
                have hP := gSub hP [0]
                have hD := gDSub hD [0] rfl
                exact ih_20 (x2_79 + 1) a_y1_79 ra_y1_79 V_y1_v26 _ _ _ _ _ (by omega) (by omega) hw hP hD hS (lv_sub hl [1, 2, 0] rfl)
              · have hw := hw.2 c_114
                refine lv_iconst (v := 0) hx hb dL_law_117 (by decide) ?_
                have hr1 := hpost _ hw
                have hS9 := hS.2.2
                subst hQ
                exact absurd hr1 (by decide)
      refine lv_iload_n hx hb dL_law_20 rfl (lv_at hl 2 rfl) ?_
      refine lv_bipush (v := 8) hx hb dL_law_21 (by decide) ?_
      refine lv_icmp_ge (tgt := 125) hx hb dL_law_23 (by decide) (fun c_23 => ?_) (fun c_23 => ?_)
      · have hw := hw.1 c_23
        refine lv_aload_n hx hb dL_law_125 rfl (lv_at hl 1 rfl) ?_
        have hP : va_P g.1 vwCl (List.flatten [kDW g a_y1_20 ra_y1_20 V_y1_20, ([] : va_W)]) _ := hP
        have hD : va_D A (List.flatten [kDW g a_y1_20 ra_y1_20 V_y1_20, ([] : va_W)]) := hD
        refine gCn (bs := [kDW g a_y1_20 ra_y1_20 V_y1_20, ([] : va_W)]) (ad := (fun w : DV × (Nat → Nat) × (Nat → Int32) => w.2.1 0)) (wf := (fun w : DV × (Nat → Nat) × (Nat → Int32) => [kDW g a_y1_20 ra_y1_20 w.1, kAr g w.2.1 160 w.2.2])) (gRunSL (As := [.ref (a_y1_20 0 0)]) (rest := []) ⟨hx, hb, hml, hown, hts⟩ (ctL_seen l hl0 g t a_y1_20 ra_y1_20 V_y1_20 _ hw) (va_cwS 1 hts (goodF gS_L_seen) rfl rfl rfl (by decide +kernel) ⟨Nat.le_of_ble_eq_true rfl, Nat.le_of_ble_eq_true rfl⟩) hE hN hX hS (gFree (bs := [kDW g a_y1_20 ra_y1_20 V_y1_20, ([] : va_W)]) hD hS hA [0, 1]) (gSub (bs := [kDW g a_y1_20 ra_y1_20 V_y1_20, ([] : va_W)]) hP [0, 1]) (gDSub (bs := [kDW g a_y1_20 ra_y1_20 V_y1_20, ([] : va_W)]) hD [0, 1] rfl) rfl rfl hl.1 rfl (lv_room (Nat.le_of_ble_eq_true rfl)) dL_law_126 ⟨(by show _ ≤ 780285; omega), (by show _ ≤ 6751825; omega)⟩) hP hD hS hA [0, 1] rfl (fun _ => rfl) rfl (fun w H locs hw hP hD hS => ?_)
        obtain ⟨V_y1_v3, at_y126, f_y126⟩ := w
        have hw := hw
        have hP : va_P g.1 vwCl (List.flatten [kDW g a_y1_20 ra_y1_20 V_y1_v3, kAr g at_y126 160 f_y126]) H := hP
        have hD : va_D A (List.flatten [kDW g a_y1_20 ra_y1_20 V_y1_v3, kAr g at_y126 160 f_y126]) := hD
        refine lv_astore_n (lv' := [(2, .ref (at_y126 0)), (0, .ref (t.1 60)), (1, .ref (a_y1_20 0 0))]) hx hb dL_law_129 rfl hl (by decide) rfl (fun ls hl => ?_)
        refine lv_aload_n hx hb dL_law_130 rfl (lv_at hl 2 rfl) ?_
        refine gCi1 (bs := [kDW g a_y1_20 ra_y1_20 V_y1_v3, kAr g at_y126 160 f_y126]) (wf := (fun v => [kDW g a_y1_20 ra_y1_20 v])) (gRunVL (As := []) (rest := []) ⟨hx, hb, hml, hown, hts⟩ (gMetL (ctP_save l hl0 g t a_y1_20 ra_y1_20 _ V_y1_v3 hw)) (cwV 0 hts (goodF gV_X6_save) rfl rfl rfl (by decide +kernel) ⟨Nat.le_of_ble_eq_true rfl, Nat.le_of_ble_eq_true rfl⟩) hE hN hX hS (gFree (bs := [kDW g a_y1_20 ra_y1_20 V_y1_v3, kAr g at_y126 160 f_y126]) hD hS hA [0]) (gSub (bs := [kDW g a_y1_20 ra_y1_20 V_y1_v3, kAr g at_y126 160 f_y126]) hP [0]) (gDSub (bs := [kDW g a_y1_20 ra_y1_20 V_y1_v3, kAr g at_y126 160 f_y126]) hD [0] rfl) 0 10 rfl rfl rfl rfl rfl hl.1 rfl (lv_room (Nat.le_of_ble_eq_true rfl)) dL_law_131 ⟨(by show _ ≤ 780285; omega), (by show _ ≤ 6751825; omega)⟩) hP hD hS hA [0] rfl (fun _ => rfl) rfl (fun r4 V_v4 H locs hw hP hD hS => ?_)
        have hP : va_P g.1 vwCl (List.flatten [kDW g a_y1_20 ra_y1_20 V_v4, kAr g at_y126 160 f_y126]) H := hP
        have hD : va_D A (List.flatten [kDW g a_y1_20 ra_y1_20 V_v4, kAr g at_y126 160 f_y126]) := hD
        refine lv_istore_n (lv' := [(3, .int r4), (2, .ref (at_y126 0)), (0, .ref (t.1 60)), (1, .ref (a_y1_20 0 0))]) hx hb dL_law_134 rfl hl (by decide) rfl (fun ls hl => ?_)
        refine lv_aload_n hx hb dL_law_135 rfl (lv_at hl 3 rfl) ?_
        refine lv_iconst (v := 0) hx hb dL_law_136 (by decide) ?_
        refine gCi1 (bs := [kDW g a_y1_20 ra_y1_20 V_v4, kAr g at_y126 160 f_y126]) (wf := (fun v => [kDW g a_y1_20 ra_y1_20 v])) (gRunSWL (As := [.ref (a_y1_20 0 0), .int 0]) (rest := []) ⟨hx, hb, hml, hown, hts⟩ (gMetL (ctL_minutesUntilCleared l hl0 g t a_y1_20 ra_y1_20 _ V_v4 0 hw)) (vx_cwSW 2 hts (goodF gS_L_minutesUntilCleared) rfl rfl rfl (by decide +kernel) ⟨Nat.le_of_ble_eq_true rfl, Nat.le_of_ble_eq_true rfl⟩) hE hN hX hS (gFree (bs := [kDW g a_y1_20 ra_y1_20 V_v4, kAr g at_y126 160 f_y126]) hD hS hA [0]) (gSub (bs := [kDW g a_y1_20 ra_y1_20 V_v4, kAr g at_y126 160 f_y126]) hP [0]) (gDSub (bs := [kDW g a_y1_20 ra_y1_20 V_v4, kAr g at_y126 160 f_y126]) hD [0] rfl) rfl rfl hl.1 rfl (lv_room (Nat.le_of_ble_eq_true rfl)) dL_law_137 ⟨(by show _ ≤ 780285; omega), (by show _ ≤ 6751825; omega)⟩) hP hD hS hA [0] rfl (fun _ => rfl) rfl (fun r5 V_v5 H locs hw hP hD hS => ?_)
        have hP : va_P g.1 vwCl (List.flatten [kDW g a_y1_20 ra_y1_20 V_v5, kAr g at_y126 160 f_y126]) H := hP
        have hD : va_D A (List.flatten [kDW g a_y1_20 ra_y1_20 V_v5, kAr g at_y126 160 f_y126]) := hD
        refine lv_aload_n hx hb dL_law_140 rfl (lv_at hl 3 rfl) ?_
        refine lv_iconst (v := 0) hx hb dL_law_141 (by decide) ?_
        refine lv_sipush (v := 130) hx hb dL_law_142 (by decide) ?_
        refine gCi1 (bs := [kDW g a_y1_20 ra_y1_20 V_v5, kAr g at_y126 160 f_y126]) (wf := (fun v => [kDW g a_y1_20 ra_y1_20 v])) (gRunSWL (As := [.ref (a_y1_20 0 0), .int 0, .int 130]) (rest := [.int r5]) ⟨hx, hb, hml, hown, hts⟩ (gMetL (ctL_depthAfter l hl0 g t a_y1_20 ra_y1_20 _ V_v5 0 130 hw)) (vx_cwSW 3 hts (goodF gS_L_depthAfter) rfl rfl rfl (by decide +kernel) ⟨Nat.le_of_ble_eq_true rfl, Nat.le_of_ble_eq_true rfl⟩) hE hN hX hS (gFree (bs := [kDW g a_y1_20 ra_y1_20 V_v5, kAr g at_y126 160 f_y126]) hD hS hA [0]) (gSub (bs := [kDW g a_y1_20 ra_y1_20 V_v5, kAr g at_y126 160 f_y126]) hP [0]) (gDSub (bs := [kDW g a_y1_20 ra_y1_20 V_v5, kAr g at_y126 160 f_y126]) hD [0] rfl) rfl rfl hl.1 rfl (lv_room (Nat.le_of_ble_eq_true rfl)) dL_law_145 ⟨(by show _ ≤ 780285; omega), (by show _ ≤ 6751825; omega)⟩) hP hD hS hA [0] rfl (fun _ => rfl) rfl (fun r6 V_v6 H locs hw hP hD hS => ?_)
        have hP : va_P g.1 vwCl (List.flatten [kDW g a_y1_20 ra_y1_20 V_v6, kAr g at_y126 160 f_y126]) H := hP
        have hD : va_D A (List.flatten [kDW g a_y1_20 ra_y1_20 V_v6, kAr g at_y126 160 f_y126]) := hD
        refine lv_iadd hx hb dL_law_148 ?_
        refine lv_aload_n hx hb dL_law_149 rfl (lv_at hl 3 rfl) ?_
        refine lv_iconst (v := 0) hx hb dL_law_150 (by decide) ?_
        refine gCi1 (bs := [kDW g a_y1_20 ra_y1_20 V_v6, kAr g at_y126 160 f_y126]) (wf := (fun v => [kDW g a_y1_20 ra_y1_20 v])) (gRunSWL (As := [.ref (a_y1_20 0 0), .int 0]) (rest := [.int (r5 + r6)]) ⟨hx, hb, hml, hown, hts⟩ (gMetL (ctL_streetByUrgency l hl0 g t a_y1_20 ra_y1_20 _ V_v6 0 hw)) (vx_cwSW 2 hts (goodF gS_L_streetByUrgency) rfl rfl rfl (by decide +kernel) ⟨Nat.le_of_ble_eq_true rfl, Nat.le_of_ble_eq_true rfl⟩) hE hN hX hS (gFree (bs := [kDW g a_y1_20 ra_y1_20 V_v6, kAr g at_y126 160 f_y126]) hD hS hA [0]) (gSub (bs := [kDW g a_y1_20 ra_y1_20 V_v6, kAr g at_y126 160 f_y126]) hP [0]) (gDSub (bs := [kDW g a_y1_20 ra_y1_20 V_v6, kAr g at_y126 160 f_y126]) hD [0] rfl) rfl rfl hl.1 rfl (lv_room (Nat.le_of_ble_eq_true rfl)) dL_law_151 ⟨(by show _ ≤ 780285; omega), (by show _ ≤ 6751825; omega)⟩) hP hD hS hA [0] rfl (fun _ => rfl) rfl (fun r7 V_v7 H locs hw hP hD hS => ?_)
        have hP : va_P g.1 vwCl (List.flatten [kDW g a_y1_20 ra_y1_20 V_v7, kAr g at_y126 160 f_y126]) H := hP
        have hD : va_D A (List.flatten [kDW g a_y1_20 ra_y1_20 V_v7, kAr g at_y126 160 f_y126]) := hD
        refine lv_iadd hx hb dL_law_154 ?_
        refine lv_aload_n hx hb dL_law_155 rfl (lv_at hl 3 rfl) ?_
        refine lv_iconst (v := 0) hx hb dL_law_156 (by decide) ?_
        refine gCi1 (bs := [kDW g a_y1_20 ra_y1_20 V_v7, kAr g at_y126 160 f_y126]) (wf := (fun v => [kDW g a_y1_20 ra_y1_20 v])) (gRunVL (As := [.int 0]) (rest := [.int ((r5 + r6) + r7)]) ⟨hx, hb, hml, hown, hts⟩ (gMetL (ctP_renderStreet l hl0 g t a_y1_20 ra_y1_20 _ V_v7 0 (show wpD_renderStreet 0 V_v7 _ from hw))) (cwV 1 hts (goodF gV_X6_renderStreet) rfl rfl rfl (by decide +kernel) ⟨Nat.le_of_ble_eq_true rfl, Nat.le_of_ble_eq_true rfl⟩) hE hN hX hS (gFree (bs := [kDW g a_y1_20 ra_y1_20 V_v7, kAr g at_y126 160 f_y126]) hD hS hA [0]) (gSub (bs := [kDW g a_y1_20 ra_y1_20 V_v7, kAr g at_y126 160 f_y126]) hP [0]) (gDSub (bs := [kDW g a_y1_20 ra_y1_20 V_v7, kAr g at_y126 160 f_y126]) hD [0] rfl) 0 10 rfl rfl rfl rfl rfl hl.1 rfl (lv_room (Nat.le_of_ble_eq_true rfl)) dL_law_157 ⟨(by show _ ≤ 780285; omega), (by show _ ≤ 6751825; omega)⟩) hP hD hS hA [0] rfl (fun _ => rfl) rfl (fun r8 V_v8 H locs hw hP hD hS => ?_)
        have hP : va_P g.1 vwCl (List.flatten [kDW g a_y1_20 ra_y1_20 V_v8, kAr g at_y126 160 f_y126]) H := hP
        have hD : va_D A (List.flatten [kDW g a_y1_20 ra_y1_20 V_v8, kAr g at_y126 160 f_y126]) := hD
        refine lv_iadd hx hb dL_law_160 ?_
        refine lv_aload_n hx hb dL_law_161 rfl (lv_at hl 3 rfl) ?_
        refine lv_iconst (v := 0) hx hb dL_law_162 (by decide) ?_
        refine gCi1 (bs := [kDW g a_y1_20 ra_y1_20 V_v8, kAr g at_y126 160 f_y126]) (wf := (fun v => [kDW g a_y1_20 ra_y1_20 v])) (gRunVL (As := [.int 0]) (rest := [.int (((r5 + r6) + r7) + r8)]) ⟨hx, hb, hml, hown, hts⟩ (gMetL (ctP_renderQueue l hl0 g t a_y1_20 ra_y1_20 _ V_v8 0 (show wpD_renderQueue 0 V_v8 _ from hw))) (cwV 1 hts (goodF gV_X6_renderQueue) rfl rfl rfl (by decide +kernel) ⟨Nat.le_of_ble_eq_true rfl, Nat.le_of_ble_eq_true rfl⟩) hE hN hX hS (gFree (bs := [kDW g a_y1_20 ra_y1_20 V_v8, kAr g at_y126 160 f_y126]) hD hS hA [0]) (gSub (bs := [kDW g a_y1_20 ra_y1_20 V_v8, kAr g at_y126 160 f_y126]) hP [0]) (gDSub (bs := [kDW g a_y1_20 ra_y1_20 V_v8, kAr g at_y126 160 f_y126]) hD [0] rfl) 0 10 rfl rfl rfl rfl rfl hl.1 rfl (lv_room (Nat.le_of_ble_eq_true rfl)) dL_law_163 ⟨(by show _ ≤ 780285; omega), (by show _ ≤ 6751825; omega)⟩) hP hD hS hA [0] rfl (fun _ => rfl) rfl (fun r9 V_v9 H locs hw hP hD hS => ?_)
        have hP : va_P g.1 vwCl (List.flatten [kDW g a_y1_20 ra_y1_20 V_v9, kAr g at_y126 160 f_y126]) H := hP
        have hD : va_D A (List.flatten [kDW g a_y1_20 ra_y1_20 V_v9, kAr g at_y126 160 f_y126]) := hD
        refine lv_iadd hx hb dL_law_166 ?_
        refine lv_istore (lv' := [(4, .int ((((r5 + r6) + r7) + r8) + r9)), (3, .int r4), (2, .ref (at_y126 0)), (0, .ref (t.1 60)), (1, .ref (a_y1_20 0 0))]) hx hb dL_law_167 hl (by decide) rfl (fun ls hl => ?_)
        refine lv_aload_n hx hb dL_law_169 rfl (lv_at hl 2 rfl) ?_
        refine lv_aload_n hx hb dL_law_170 rfl (lv_at hl 4 rfl) ?_
        have hP : va_P g.1 vwCl (List.flatten [kDW g a_y1_20 ra_y1_20 V_v9, kAr g at_y126 160 f_y126, ([] : va_W)]) _ := hP
        have hD : va_D A (List.flatten [kDW g a_y1_20 ra_y1_20 V_v9, kAr g at_y126 160 f_y126, ([] : va_W)]) := hD
        refine gCn (bs := [kDW g a_y1_20 ra_y1_20 V_v9, kAr g at_y126 160 f_y126, ([] : va_W)]) (ad := (fun w : DV × (Nat → Nat) × (Nat → Int32) => w.2.1 0)) (wf := (fun w : DV × (Nat → Nat) × (Nat → Int32) => [kDW g a_y1_20 ra_y1_20 w.1, kAr g w.2.1 160 w.2.2])) (gRunSL (As := [.ref (a_y1_20 0 0)]) (rest := [.ref (at_y126 0)]) ⟨hx, hb, hml, hown, hts⟩ (ctL_seen l hl0 g t a_y1_20 ra_y1_20 V_v9 _ hw) (va_cwS 1 hts (goodF gS_L_seen) rfl rfl rfl (by decide +kernel) ⟨Nat.le_of_ble_eq_true rfl, Nat.le_of_ble_eq_true rfl⟩) hE hN hX hS (gFree (bs := [kDW g a_y1_20 ra_y1_20 V_v9, kAr g at_y126 160 f_y126, ([] : va_W)]) hD hS hA [0, 2]) (gSub (bs := [kDW g a_y1_20 ra_y1_20 V_v9, kAr g at_y126 160 f_y126, ([] : va_W)]) hP [0, 2]) (gDSub (bs := [kDW g a_y1_20 ra_y1_20 V_v9, kAr g at_y126 160 f_y126, ([] : va_W)]) hD [0, 2] rfl) rfl rfl hl.1 rfl (lv_room (Nat.le_of_ble_eq_true rfl)) dL_law_171 ⟨(by show _ ≤ 780285; omega), (by show _ ≤ 6751825; omega)⟩) hP hD hS hA [0, 2] rfl (fun _ => rfl) rfl (fun w H locs hw hP hD hS => ?_)
        obtain ⟨V_y1_v10, at_y171, f_y171⟩ := w
        have hw := hw
        have hP : va_P g.1 vwCl (List.flatten [kDW g a_y1_20 ra_y1_20 V_y1_v10, kAr g at_y126 160 f_y126, kAr g at_y171 160 f_y171]) H := hP
        have hD : va_D A (List.flatten [kDW g a_y1_20 ra_y1_20 V_y1_v10, kAr g at_y126 160 f_y126, kAr g at_y171 160 f_y171]) := hD
        refine gCi0 (bs := [kDW g a_y1_20 ra_y1_20 V_y1_v10, kAr g at_y126 160 f_y126, kAr g at_y171 160 f_y171]) (wf := [kAr g at_y126 160 f_y126, kAr g at_y171 160 f_y171]) (gRunSL (As := [.ref (at_y126 0), .ref (at_y171 0)]) (rest := []) ⟨hx, hb, hml, hown, hts⟩ (ctL_areAlike l hl0 g t at_y126 f_y126 at_y171 f_y171 _ hw) (va_cwS 2 hts (goodF gS_L_areAlike) rfl rfl rfl (by decide +kernel) ⟨Nat.le_of_ble_eq_true rfl, Nat.le_of_ble_eq_true rfl⟩) hE hN hX hS (gFree (bs := [kDW g a_y1_20 ra_y1_20 V_y1_v10, kAr g at_y126 160 f_y126, kAr g at_y171 160 f_y171]) hD hS hA [1, 2]) (gSub (bs := [kDW g a_y1_20 ra_y1_20 V_y1_v10, kAr g at_y126 160 f_y126, kAr g at_y171 160 f_y171]) hP [1, 2]) (gDSub (bs := [kDW g a_y1_20 ra_y1_20 V_y1_v10, kAr g at_y126 160 f_y126, kAr g at_y171 160 f_y171]) hD [1, 2] rfl) rfl rfl hl.1 rfl (lv_room (Nat.le_of_ble_eq_true rfl)) dL_law_174 ⟨(by show _ ≤ 780285; omega), (by show _ ≤ 6751825; omega)⟩) hP hD hS hA [1, 2] rfl rfl rfl (fun r11 H locs hw hP hD hS => ?_)
        have hP : va_P g.1 vwCl (List.flatten [kDW g a_y1_20 ra_y1_20 V_y1_v10, kAr g at_y126 160 f_y126, kAr g at_y171 160 f_y171]) H := hP
        have hD : va_D A (List.flatten [kDW g a_y1_20 ra_y1_20 V_y1_v10, kAr g at_y126 160 f_y126, kAr g at_y171 160 f_y171]) := hD
        refine lv_if_ne (tgt := 182) hx hb dL_law_177 (by decide) (fun c_177 => ?_) (fun c_177 => ?_)
        · have hw := hw.1 c_177
          refine lv_iload hx hb dL_law_182 (lv_at hl 0 rfl) ?_
          refine lv_aload_n hx hb dL_law_184 rfl (lv_at hl 4 rfl) ?_
          refine lv_bipush (v := 70) hx hb dL_law_185 (by decide) ?_
          refine gCi1 (bs := [kDW g a_y1_20 ra_y1_20 V_y1_v10, kAr g at_y126 160 f_y126, kAr g at_y171 160 f_y171]) (wf := (fun v => [kDW g a_y1_20 ra_y1_20 v])) (gRunSWL (As := [.ref (a_y1_20 0 0), .int 70]) (rest := [.int ((((r5 + r6) + r7) + r8) + r9)]) ⟨hx, hb, hml, hown, hts⟩ (gMetL (ctL_advance l hl0 g t a_y1_20 ra_y1_20 _ V_y1_v10 70 hw)) (vx_cwSW 2 hts (goodF gS_L_advance) rfl rfl rfl (by decide +kernel) ⟨Nat.le_of_ble_eq_true rfl, Nat.le_of_ble_eq_true rfl⟩) hE hN hX hS (gFree (bs := [kDW g a_y1_20 ra_y1_20 V_y1_v10, kAr g at_y126 160 f_y126, kAr g at_y171 160 f_y171]) hD hS hA [0]) (gSub (bs := [kDW g a_y1_20 ra_y1_20 V_y1_v10, kAr g at_y126 160 f_y126, kAr g at_y171 160 f_y171]) hP [0]) (gDSub (bs := [kDW g a_y1_20 ra_y1_20 V_y1_v10, kAr g at_y126 160 f_y126, kAr g at_y171 160 f_y171]) hD [0] rfl) rfl rfl hl.1 rfl (lv_room (Nat.le_of_ble_eq_true rfl)) dL_law_187 ⟨(by show _ ≤ 780285; omega), (by show _ ≤ 6751825; omega)⟩) hP hD hS hA [0] rfl (fun _ => rfl) rfl (fun r12 V_v12 H locs hw hP hD hS => ?_)
          have hP : va_P g.1 vwCl (List.flatten [kDW g a_y1_20 ra_y1_20 V_v12, kAr g at_y126 160 f_y126, kAr g at_y171 160 f_y171]) H := hP
          have hD : va_D A (List.flatten [kDW g a_y1_20 ra_y1_20 V_v12, kAr g at_y126 160 f_y126, kAr g at_y171 160 f_y171]) := hD
          refine lv_aload_n hx hb dL_law_190 rfl (lv_at hl 4 rfl) ?_
          refine lv_iconst (v := 0) hx hb dL_law_191 (by decide) ?_
          refine lv_iconst (v := 0) hx hb dL_law_192 (by decide) ?_
          refine gCi1 (bs := [kDW g a_y1_20 ra_y1_20 V_v12, kAr g at_y126 160 f_y126, kAr g at_y171 160 f_y171]) (wf := (fun v => [kDW g a_y1_20 ra_y1_20 v])) (gRunSWL (As := [.ref (a_y1_20 0 0), .int 0, .int 0]) (rest := [.int r12, .int ((((r5 + r6) + r7) + r8) + r9)]) ⟨hx, hb, hml, hown, hts⟩ (gMetL (ctL_order l hl0 g t a_y1_20 ra_y1_20 _ V_v12 0 0 hw)) (vx_cwSW 3 hts (goodF gS_L_order) rfl rfl rfl (by decide +kernel) ⟨Nat.le_of_ble_eq_true rfl, Nat.le_of_ble_eq_true rfl⟩) hE hN hX hS (gFree (bs := [kDW g a_y1_20 ra_y1_20 V_v12, kAr g at_y126 160 f_y126, kAr g at_y171 160 f_y171]) hD hS hA [0]) (gSub (bs := [kDW g a_y1_20 ra_y1_20 V_v12, kAr g at_y126 160 f_y126, kAr g at_y171 160 f_y171]) hP [0]) (gDSub (bs := [kDW g a_y1_20 ra_y1_20 V_v12, kAr g at_y126 160 f_y126, kAr g at_y171 160 f_y171]) hD [0] rfl) rfl rfl hl.1 rfl (lv_room (Nat.le_of_ble_eq_true rfl)) dL_law_193 ⟨(by show _ ≤ 780285; omega), (by show _ ≤ 6751825; omega)⟩) hP hD hS hA [0] rfl (fun _ => rfl) rfl (fun r13 V_v13 H locs hw hP hD hS => ?_)
          have hP : va_P g.1 vwCl (List.flatten [kDW g a_y1_20 ra_y1_20 V_v13, kAr g at_y126 160 f_y126, kAr g at_y171 160 f_y171]) H := hP
          have hD : va_D A (List.flatten [kDW g a_y1_20 ra_y1_20 V_v13, kAr g at_y126 160 f_y126, kAr g at_y171 160 f_y171]) := hD
          refine lv_iadd hx hb dL_law_196 ?_
          refine lv_aload_n hx hb dL_law_197 rfl (lv_at hl 4 rfl) ?_
          refine lv_iconst (v := 3) hx hb dL_law_198 (by decide) ?_
          refine gCi1 (bs := [kDW g a_y1_20 ra_y1_20 V_v13, kAr g at_y126 160 f_y126, kAr g at_y171 160 f_y171]) (wf := (fun v => [kDW g a_y1_20 ra_y1_20 v])) (gRunSWL (As := [.ref (a_y1_20 0 0), .int 3]) (rest := [.int (r12 + r13), .int ((((r5 + r6) + r7) + r8) + r9)]) ⟨hx, hb, hml, hown, hts⟩ (gMetL (ctL_setSnowfall l hl0 g t a_y1_20 ra_y1_20 _ V_v13 3 hw)) (vx_cwSW 2 hts (goodF gS_L_setSnowfall) rfl rfl rfl (by decide +kernel) ⟨Nat.le_of_ble_eq_true rfl, Nat.le_of_ble_eq_true rfl⟩) hE hN hX hS (gFree (bs := [kDW g a_y1_20 ra_y1_20 V_v13, kAr g at_y126 160 f_y126, kAr g at_y171 160 f_y171]) hD hS hA [0]) (gSub (bs := [kDW g a_y1_20 ra_y1_20 V_v13, kAr g at_y126 160 f_y126, kAr g at_y171 160 f_y171]) hP [0]) (gDSub (bs := [kDW g a_y1_20 ra_y1_20 V_v13, kAr g at_y126 160 f_y126, kAr g at_y171 160 f_y171]) hD [0] rfl) rfl rfl hl.1 rfl (lv_room (Nat.le_of_ble_eq_true rfl)) dL_law_199 ⟨(by show _ ≤ 780285; omega), (by show _ ≤ 6751825; omega)⟩) hP hD hS hA [0] rfl (fun _ => rfl) rfl (fun r14 V_v14 H locs hw hP hD hS => ?_)
          have hP : va_P g.1 vwCl (List.flatten [kDW g a_y1_20 ra_y1_20 V_v14, kAr g at_y126 160 f_y126, kAr g at_y171 160 f_y171]) H := hP
          have hD : va_D A (List.flatten [kDW g a_y1_20 ra_y1_20 V_v14, kAr g at_y126 160 f_y126, kAr g at_y171 160 f_y171]) := hD
          refine lv_iadd hx hb dL_law_202 ?_
          refine lv_aload_n hx hb dL_law_203 rfl (lv_at hl 4 rfl) ?_
          refine lv_iconst (v := 4) hx hb dL_law_204 (by decide) ?_
          refine gCi1 (bs := [kDW g a_y1_20 ra_y1_20 V_v14, kAr g at_y126 160 f_y126, kAr g at_y171 160 f_y171]) (wf := (fun v => [kDW g a_y1_20 ra_y1_20 v])) (gRunSWL (As := [.ref (a_y1_20 0 0), .int 4]) (rest := [.int ((r12 + r13) + r14), .int ((((r5 + r6) + r7) + r8) + r9)]) ⟨hx, hb, hml, hown, hts⟩ (gMetL (ctL_setWind l hl0 g t a_y1_20 ra_y1_20 _ V_v14 4 hw)) (vx_cwSW 2 hts (goodF gS_L_setWind) rfl rfl rfl (by decide +kernel) ⟨Nat.le_of_ble_eq_true rfl, Nat.le_of_ble_eq_true rfl⟩) hE hN hX hS (gFree (bs := [kDW g a_y1_20 ra_y1_20 V_v14, kAr g at_y126 160 f_y126, kAr g at_y171 160 f_y171]) hD hS hA [0]) (gSub (bs := [kDW g a_y1_20 ra_y1_20 V_v14, kAr g at_y126 160 f_y126, kAr g at_y171 160 f_y171]) hP [0]) (gDSub (bs := [kDW g a_y1_20 ra_y1_20 V_v14, kAr g at_y126 160 f_y126, kAr g at_y171 160 f_y171]) hD [0] rfl) rfl rfl hl.1 rfl (lv_room (Nat.le_of_ble_eq_true rfl)) dL_law_205 ⟨(by show _ ≤ 780285; omega), (by show _ ≤ 6751825; omega)⟩) hP hD hS hA [0] rfl (fun _ => rfl) rfl (fun r15 V_v15 H locs hw hP hD hS => ?_)
          have hP : va_P g.1 vwCl (List.flatten [kDW g a_y1_20 ra_y1_20 V_v15, kAr g at_y126 160 f_y126, kAr g at_y171 160 f_y171]) H := hP
          have hD : va_D A (List.flatten [kDW g a_y1_20 ra_y1_20 V_v15, kAr g at_y126 160 f_y126, kAr g at_y171 160 f_y171]) := hD
          refine lv_iadd hx hb dL_law_208 ?_
          refine lv_aload_n hx hb dL_law_209 rfl (lv_at hl 4 rfl) ?_
          refine lv_bipush (v := 9) hx hb dL_law_210 (by decide) ?_
          refine gCi1 (bs := [kDW g a_y1_20 ra_y1_20 V_v15, kAr g at_y126 160 f_y126, kAr g at_y171 160 f_y171]) (wf := (fun v => [kDW g a_y1_20 ra_y1_20 v])) (gRunSWL (As := [.ref (a_y1_20 0 0), .int 9]) (rest := [.int (((r12 + r13) + r14) + r15), .int ((((r5 + r6) + r7) + r8) + r9)]) ⟨hx, hb, hml, hown, hts⟩ (gMetL (ctL_loadSalt l hl0 g t a_y1_20 ra_y1_20 _ V_v15 9 hw)) (vx_cwSW 2 hts (goodF gS_L_loadSalt) rfl rfl rfl (by decide +kernel) ⟨Nat.le_of_ble_eq_true rfl, Nat.le_of_ble_eq_true rfl⟩) hE hN hX hS (gFree (bs := [kDW g a_y1_20 ra_y1_20 V_v15, kAr g at_y126 160 f_y126, kAr g at_y171 160 f_y171]) hD hS hA [0]) (gSub (bs := [kDW g a_y1_20 ra_y1_20 V_v15, kAr g at_y126 160 f_y126, kAr g at_y171 160 f_y171]) hP [0]) (gDSub (bs := [kDW g a_y1_20 ra_y1_20 V_v15, kAr g at_y126 160 f_y126, kAr g at_y171 160 f_y171]) hD [0] rfl) rfl rfl hl.1 rfl (lv_room (Nat.le_of_ble_eq_true rfl)) dL_law_212 ⟨(by show _ ≤ 780285; omega), (by show _ ≤ 6751825; omega)⟩) hP hD hS hA [0] rfl (fun _ => rfl) rfl (fun r16 V_v16 H locs hw hP hD hS => ?_)
          have hP : va_P g.1 vwCl (List.flatten [kDW g a_y1_20 ra_y1_20 V_v16, kAr g at_y126 160 f_y126, kAr g at_y171 160 f_y171]) H := hP
          have hD : va_D A (List.flatten [kDW g a_y1_20 ra_y1_20 V_v16, kAr g at_y126 160 f_y126, kAr g at_y171 160 f_y171]) := hD
          refine lv_iadd hx hb dL_law_215 ?_
          refine lv_iadd hx hb dL_law_216 ?_
          refine lv_istore (lv' := [(4, .int (((((r5 + r6) + r7) + r8) + r9) + ((((r12 + r13) + r14) + r15) + r16))), (3, .int r4), (2, .ref (at_y126 0)), (0, .ref (t.1 60)), (1, .ref (a_y1_20 0 0))]) hx hb dL_law_217 hl (by decide) rfl (fun ls hl => ?_)
          refine lv_iload hx hb dL_law_219 (lv_at hl 0 rfl) ?_
          refine lv_ldc (v := (-90000000)) hx hb hown (hts _ (lwM tw895)) dL_law_221 ?_
          refine lv_icmp_le (tgt := 258) hx hb dL_law_223 (by decide) (fun c_223 => ?_) (fun c_223 => ?_)
          · have hw := hw.1 c_223
            refine lv_iconst (v := 0) hx hb dL_law_258 (by decide) ?_
            have hr1 := hpost _ hw
            have hS9 := hS.2.2
            subst hQ
            exact absurd hr1 (by decide)
          · have hw := hw.2 c_223
            refine lv_aload_n hx hb dL_law_226 rfl (lv_at hl 4 rfl) ?_
            refine gCi1 (bs := [kDW g a_y1_20 ra_y1_20 V_v16, kAr g at_y126 160 f_y126, kAr g at_y171 160 f_y171]) (wf := (fun v => [kDW g a_y1_20 ra_y1_20 v])) (gRunSWL (As := [.ref (a_y1_20 0 0)]) (rest := []) ⟨hx, hb, hml, hown, hts⟩ (gMetL (ctL_restore l hl0 g t a_y1_20 ra_y1_20 _ V_v16 hw)) (vx_cwSW 1 hts (goodF gS_L_restore) rfl rfl rfl (by decide +kernel) ⟨Nat.le_of_ble_eq_true rfl, Nat.le_of_ble_eq_true rfl⟩) hE hN hX hS (gFree (bs := [kDW g a_y1_20 ra_y1_20 V_v16, kAr g at_y126 160 f_y126, kAr g at_y171 160 f_y171]) hD hS hA [0]) (gSub (bs := [kDW g a_y1_20 ra_y1_20 V_v16, kAr g at_y126 160 f_y126, kAr g at_y171 160 f_y171]) hP [0]) (gDSub (bs := [kDW g a_y1_20 ra_y1_20 V_v16, kAr g at_y126 160 f_y126, kAr g at_y171 160 f_y171]) hD [0] rfl) rfl rfl hl.1 rfl (lv_room (Nat.le_of_ble_eq_true rfl)) dL_law_227 ⟨(by show _ ≤ 780285; omega), (by show _ ≤ 6751825; omega)⟩) hP hD hS hA [0] rfl (fun _ => rfl) rfl (fun r17 V_v17 H locs hw hP hD hS => ?_)
            have hP : va_P g.1 vwCl (List.flatten [kDW g a_y1_20 ra_y1_20 V_v17, kAr g at_y126 160 f_y126, kAr g at_y171 160 f_y171]) H := hP
            have hD : va_D A (List.flatten [kDW g a_y1_20 ra_y1_20 V_v17, kAr g at_y126 160 f_y126, kAr g at_y171 160 f_y171]) := hD
            refine lv_iload_n hx hb dL_law_230 rfl (lv_at hl 1 rfl) ?_
            refine lv_icmp_ne (tgt := 258) hx hb dL_law_231 (by decide) (fun c_231 => ?_) (fun c_231 => ?_)
            · have hw := hw.1 c_231
              refine lv_iconst (v := 0) hx hb dL_law_258 (by decide) ?_
              have hr1 := hpost _ hw
              have hS9 := hS.2.2
              subst hQ
              exact absurd hr1 (by decide)
            · have hw := hw.2 c_231
              refine lv_aload_n hx hb dL_law_234 rfl (lv_at hl 2 rfl) ?_
              refine lv_aload_n hx hb dL_law_235 rfl (lv_at hl 4 rfl) ?_
              have hP : va_P g.1 vwCl (List.flatten [kDW g a_y1_20 ra_y1_20 V_v17, kAr g at_y126 160 f_y126, kAr g at_y171 160 f_y171, ([] : va_W)]) _ := hP
              have hD : va_D A (List.flatten [kDW g a_y1_20 ra_y1_20 V_v17, kAr g at_y126 160 f_y126, kAr g at_y171 160 f_y171, ([] : va_W)]) := hD
              refine gCn (bs := [kDW g a_y1_20 ra_y1_20 V_v17, kAr g at_y126 160 f_y126, kAr g at_y171 160 f_y171, ([] : va_W)]) (ad := (fun w : DV × (Nat → Nat) × (Nat → Int32) => w.2.1 0)) (wf := (fun w : DV × (Nat → Nat) × (Nat → Int32) => [kDW g a_y1_20 ra_y1_20 w.1, kAr g w.2.1 160 w.2.2])) (gRunSL (As := [.ref (a_y1_20 0 0)]) (rest := [.ref (at_y126 0)]) ⟨hx, hb, hml, hown, hts⟩ (ctL_seen l hl0 g t a_y1_20 ra_y1_20 V_v17 _ hw) (va_cwS 1 hts (goodF gS_L_seen) rfl rfl rfl (by decide +kernel) ⟨Nat.le_of_ble_eq_true rfl, Nat.le_of_ble_eq_true rfl⟩) hE hN hX hS (gFree (bs := [kDW g a_y1_20 ra_y1_20 V_v17, kAr g at_y126 160 f_y126, kAr g at_y171 160 f_y171, ([] : va_W)]) hD hS hA [0, 3]) (gSub (bs := [kDW g a_y1_20 ra_y1_20 V_v17, kAr g at_y126 160 f_y126, kAr g at_y171 160 f_y171, ([] : va_W)]) hP [0, 3]) (gDSub (bs := [kDW g a_y1_20 ra_y1_20 V_v17, kAr g at_y126 160 f_y126, kAr g at_y171 160 f_y171, ([] : va_W)]) hD [0, 3] rfl) rfl rfl hl.1 rfl (lv_room (Nat.le_of_ble_eq_true rfl)) dL_law_236 ⟨(by show _ ≤ 780285; omega), (by show _ ≤ 6751825; omega)⟩) hP hD hS hA [0, 3] rfl (fun _ => rfl) rfl (fun w H locs hw hP hD hS => ?_)
              obtain ⟨V_y1_v18, at_y236, f_y236⟩ := w
              have hw := hw
              have hP : va_P g.1 vwCl (List.flatten [kDW g a_y1_20 ra_y1_20 V_y1_v18, kAr g at_y126 160 f_y126, kAr g at_y171 160 f_y171, kAr g at_y236 160 f_y236]) H := hP
              have hD : va_D A (List.flatten [kDW g a_y1_20 ra_y1_20 V_y1_v18, kAr g at_y126 160 f_y126, kAr g at_y171 160 f_y171, kAr g at_y236 160 f_y236]) := hD
              refine gCi0 (bs := [kDW g a_y1_20 ra_y1_20 V_y1_v18, kAr g at_y126 160 f_y126, kAr g at_y171 160 f_y171, kAr g at_y236 160 f_y236]) (wf := [kAr g at_y126 160 f_y126, kAr g at_y236 160 f_y236]) (gRunSL (As := [.ref (at_y126 0), .ref (at_y236 0)]) (rest := []) ⟨hx, hb, hml, hown, hts⟩ (ctL_areAlike l hl0 g t at_y126 f_y126 at_y236 f_y236 _ hw) (va_cwS 2 hts (goodF gS_L_areAlike) rfl rfl rfl (by decide +kernel) ⟨Nat.le_of_ble_eq_true rfl, Nat.le_of_ble_eq_true rfl⟩) hE hN hX hS (gFree (bs := [kDW g a_y1_20 ra_y1_20 V_y1_v18, kAr g at_y126 160 f_y126, kAr g at_y171 160 f_y171, kAr g at_y236 160 f_y236]) hD hS hA [1, 3]) (gSub (bs := [kDW g a_y1_20 ra_y1_20 V_y1_v18, kAr g at_y126 160 f_y126, kAr g at_y171 160 f_y171, kAr g at_y236 160 f_y236]) hP [1, 3]) (gDSub (bs := [kDW g a_y1_20 ra_y1_20 V_y1_v18, kAr g at_y126 160 f_y126, kAr g at_y171 160 f_y171, kAr g at_y236 160 f_y236]) hD [1, 3] rfl) rfl rfl hl.1 rfl (lv_room (Nat.le_of_ble_eq_true rfl)) dL_law_239 ⟨(by show _ ≤ 780285; omega), (by show _ ≤ 6751825; omega)⟩) hP hD hS hA [1, 3] rfl rfl rfl (fun r19 H locs hw hP hD hS => ?_)
              have hP : va_P g.1 vwCl (List.flatten [kDW g a_y1_20 ra_y1_20 V_y1_v18, kAr g at_y126 160 f_y126, kAr g at_y171 160 f_y171, kAr g at_y236 160 f_y236]) H := hP
              have hD : va_D A (List.flatten [kDW g a_y1_20 ra_y1_20 V_y1_v18, kAr g at_y126 160 f_y126, kAr g at_y171 160 f_y171, kAr g at_y236 160 f_y236]) := hD
              refine lv_if_eq (tgt := 258) hx hb dL_law_242 (by decide) (fun c_242 => ?_) (fun c_242 => ?_)
              · have hw := hw.1 c_242
                refine lv_iconst (v := 0) hx hb dL_law_258 (by decide) ?_
                have hr1 := hpost _ hw
                have hS9 := hS.2.2
                subst hQ
                exact absurd hr1 (by decide)
              · have hw := hw.2 c_242
                refine lv_aload_n hx hb dL_law_245 rfl (lv_at hl 4 rfl) ?_
                refine gCi1 (bs := [kDW g a_y1_20 ra_y1_20 V_y1_v18, kAr g at_y126 160 f_y126, kAr g at_y171 160 f_y171, kAr g at_y236 160 f_y236]) (wf := (fun v => [kDW g a_y1_20 ra_y1_20 v])) (gRunSWL (As := [.ref (a_y1_20 0 0)]) (rest := []) ⟨hx, hb, hml, hown, hts⟩ (gMetL (ctL_undo l hl0 g t a_y1_20 ra_y1_20 _ V_y1_v18 hw)) (vx_cwSW 1 hts (goodF gS_L_undo) rfl rfl rfl (by decide +kernel) ⟨Nat.le_of_ble_eq_true rfl, Nat.le_of_ble_eq_true rfl⟩) hE hN hX hS (gFree (bs := [kDW g a_y1_20 ra_y1_20 V_y1_v18, kAr g at_y126 160 f_y126, kAr g at_y171 160 f_y171, kAr g at_y236 160 f_y236]) hD hS hA [0]) (gSub (bs := [kDW g a_y1_20 ra_y1_20 V_y1_v18, kAr g at_y126 160 f_y126, kAr g at_y171 160 f_y171, kAr g at_y236 160 f_y236]) hP [0]) (gDSub (bs := [kDW g a_y1_20 ra_y1_20 V_y1_v18, kAr g at_y126 160 f_y126, kAr g at_y171 160 f_y171, kAr g at_y236 160 f_y236]) hD [0] rfl) rfl rfl hl.1 rfl (lv_room (Nat.le_of_ble_eq_true rfl)) dL_law_246 ⟨(by show _ ≤ 780285; omega), (by show _ ≤ 6751825; omega)⟩) hP hD hS hA [0] rfl (fun _ => rfl) rfl (fun r20 V_v20 H locs hw hP hD hS => ?_)
                have hP : va_P g.1 vwCl (List.flatten [kDW g a_y1_20 ra_y1_20 V_v20, kAr g at_y126 160 f_y126, kAr g at_y171 160 f_y171, kAr g at_y236 160 f_y236]) H := hP
                have hD : va_D A (List.flatten [kDW g a_y1_20 ra_y1_20 V_v20, kAr g at_y126 160 f_y126, kAr g at_y171 160 f_y171, kAr g at_y236 160 f_y236]) := hD
                refine lv_ldc (v := (-900001)) hx hb hown (hts _ (lwM tw97)) dL_law_249 ?_
                refine lv_icmp_ne (tgt := 258) hx hb dL_law_251 (by decide) (fun c_251 => ?_) (fun c_251 => ?_)
                · have hw := hw.1 c_251
                  refine lv_iconst (v := 0) hx hb dL_law_258 (by decide) ?_
                  have hr1 := hpost _ hw
                  have hS9 := hS.2.2
                  subst hQ
                  exact absurd hr1 (by decide)
                · have hw := hw.2 c_251
                  refine lv_iconst (v := 1) hx hb dL_law_254 (by decide) ?_
                  refine lv_goto (tgt := 259) hx hb dL_law_255 (by decide) ?_
                  have hr1 := hpost _ hw
                  have hS9 := hS.2.2
                  subst hQ
                  refine va_forget (fun q hq => hA0 _ (hS9 q hq)) ?_
                  refine W.widen (k := 780285) (n := 6751825) (by omega) (by omega) ?_
                  exact lw_ret hx hb hr hlocks dL_law_259
        · have hw := hw.2 c_177
          refine lv_iconst (v := 0) hx hb dL_law_180 (by decide) ?_
          have hr1 := hpost _ hw
          have hS9 := hS.2.2
          subst hQ
          exact absurd hr1 (by decide)
      · have hw := hw.2 c_23
        refine lv_aload_n hx hb dL_law_26 rfl (lv_at hl 1 rfl) ?_
        have hP : va_P g.1 vwCl (List.flatten [kDW g a_y1_20 ra_y1_20 V_y1_20, ([] : va_W)]) _ := hP
        have hD : va_D A (List.flatten [kDW g a_y1_20 ra_y1_20 V_y1_20, ([] : va_W)]) := hD
        refine gCn (bs := [kDW g a_y1_20 ra_y1_20 V_y1_20, ([] : va_W)]) (ad := (fun w : DV × (Nat → Nat) × (Nat → Int32) => w.2.1 0)) (wf := (fun w : DV × (Nat → Nat) × (Nat → Int32) => [kDW g a_y1_20 ra_y1_20 w.1, kAr g w.2.1 160 w.2.2])) (gRunSL (As := [.ref (a_y1_20 0 0)]) (rest := []) ⟨hx, hb, hml, hown, hts⟩ (ctL_seen l hl0 g t a_y1_20 ra_y1_20 V_y1_20 _ hw) (va_cwS 1 hts (goodF gS_L_seen) rfl rfl rfl (by decide +kernel) ⟨Nat.le_of_ble_eq_true rfl, Nat.le_of_ble_eq_true rfl⟩) hE hN hX hS (gFree (bs := [kDW g a_y1_20 ra_y1_20 V_y1_20, ([] : va_W)]) hD hS hA [0, 1]) (gSub (bs := [kDW g a_y1_20 ra_y1_20 V_y1_20, ([] : va_W)]) hP [0, 1]) (gDSub (bs := [kDW g a_y1_20 ra_y1_20 V_y1_20, ([] : va_W)]) hD [0, 1] rfl) rfl rfl hl.1 rfl (lv_room (Nat.le_of_ble_eq_true rfl)) dL_law_27 ⟨(by show _ ≤ 780285; omega), (by show _ ≤ 6751825; omega)⟩) hP hD hS hA [0, 1] rfl (fun _ => rfl) rfl (fun w H locs hw hP hD hS => ?_)
        obtain ⟨V_y1_v21, at_y27, f_y27⟩ := w
        have hw := hw
        have hP : va_P g.1 vwCl (List.flatten [kDW g a_y1_20 ra_y1_20 V_y1_v21, kAr g at_y27 160 f_y27]) H := hP
        have hD : va_D A (List.flatten [kDW g a_y1_20 ra_y1_20 V_y1_v21, kAr g at_y27 160 f_y27]) := hD
        refine lv_astore_n (lv' := [(3, .ref (at_y27 0)), (0, .ref (t.1 60)), (1, .ref (a_y1_20 0 0)), (2, .int x2_20)]) hx hb dL_law_30 rfl hl (by decide) rfl (fun ls hl => ?_)
        refine lv_aload_n hx hb dL_law_31 rfl (lv_at hl 2 rfl) ?_
        refine lv_aload_n hx hb dL_law_32 rfl (lv_at hl 1 rfl) ?_
        refine lv_bipush (v := 54) hx hb dL_law_33 (by decide) ?_
        refine lv_iconst (v := 4) hx hb dL_law_35 (by decide) ?_
        refine lv_iload_n hx hb dL_law_36 rfl (lv_at hl 3 rfl) ?_
        refine lv_imul hx hb dL_law_37 ?_
        refine lv_iadd hx hb dL_law_38 ?_
        refine gCi1 (bs := [kDW g a_y1_20 ra_y1_20 V_y1_v21, kAr g at_y27 160 f_y27]) (wf := (fun c1 => [kDW g a_y1_20 ra_y1_20 c1])) (gRunSL (As := [.ref (a_y1_20 0 0), .ref (t.1 60), .int (54 + (4 * x2_20))]) (rest := []) ⟨hx, hb, hml, hown, hts⟩ (ctL_acts l hl0 g t a_y1_20 ra_y1_20 V_y1_v21 _ z_len z_txt hgz (54 + (4 * x2_20)) hw) (va_cwS 3 hts (goodF gS_L_acts) rfl rfl rfl (by decide +kernel) ⟨Nat.le_of_ble_eq_true rfl, Nat.le_of_ble_eq_true rfl⟩) hE hN hX hS (gFree (bs := [kDW g a_y1_20 ra_y1_20 V_y1_v21, kAr g at_y27 160 f_y27]) hD hS hA [0]) (gSub (bs := [kDW g a_y1_20 ra_y1_20 V_y1_v21, kAr g at_y27 160 f_y27]) hP [0]) (gDSub (bs := [kDW g a_y1_20 ra_y1_20 V_y1_v21, kAr g at_y27 160 f_y27]) hD [0] rfl) rfl rfl hl.1 rfl (lv_room (Nat.le_of_ble_eq_true rfl)) dL_law_39 ⟨(by show _ ≤ 780285; omega), (by show _ ≤ 6751825; omega)⟩) hP hD hS hA [0] rfl (fun _ => rfl) rfl (fun r22 V_y1_v22 H locs hw hP hD hS => ?_)
        have hP : va_P g.1 vwCl (List.flatten [kDW g a_y1_20 ra_y1_20 V_y1_v22, kAr g at_y27 160 f_y27]) H := hP
        have hD : va_D A (List.flatten [kDW g a_y1_20 ra_y1_20 V_y1_v22, kAr g at_y27 160 f_y27]) := hD
        refine lv_istore (lv' := [(4, .int r22), (3, .ref (at_y27 0)), (0, .ref (t.1 60)), (1, .ref (a_y1_20 0 0)), (2, .int x2_20)]) hx hb dL_law_42 hl (by decide) rfl (fun ls hl => ?_)
        refine lv_aload_n hx hb dL_law_44 rfl (lv_at hl 3 rfl) ?_
        refine gCi1 (bs := [kDW g a_y1_20 ra_y1_20 V_y1_v22, kAr g at_y27 160 f_y27]) (wf := (fun c1 => [kDW g a_y1_20 ra_y1_20 c1])) (gRunSL (As := [.ref (a_y1_20 0 0)]) (rest := []) ⟨hx, hb, hml, hown, hts⟩ (ctL_isWell l hl0 g t a_y1_20 ra_y1_20 V_y1_v22 _ hw) (va_cwS 1 hts (goodF gS_L_isWell) rfl rfl rfl (by decide +kernel) ⟨Nat.le_of_ble_eq_true rfl, Nat.le_of_ble_eq_true rfl⟩) hE hN hX hS (gFree (bs := [kDW g a_y1_20 ra_y1_20 V_y1_v22, kAr g at_y27 160 f_y27]) hD hS hA [0]) (gSub (bs := [kDW g a_y1_20 ra_y1_20 V_y1_v22, kAr g at_y27 160 f_y27]) hP [0]) (gDSub (bs := [kDW g a_y1_20 ra_y1_20 V_y1_v22, kAr g at_y27 160 f_y27]) hD [0] rfl) rfl rfl hl.1 rfl (lv_room (Nat.le_of_ble_eq_true rfl)) dL_law_45 ⟨(by show _ ≤ 780285; omega), (by show _ ≤ 6751825; omega)⟩) hP hD hS hA [0] rfl (fun _ => rfl) rfl (fun r23 V_y1_v23 H locs hw hP hD hS => ?_)
        have hP : va_P g.1 vwCl (List.flatten [kDW g a_y1_20 ra_y1_20 V_y1_v23, kAr g at_y27 160 f_y27]) H := hP
        have hD : va_D A (List.flatten [kDW g a_y1_20 ra_y1_20 V_y1_v23, kAr g at_y27 160 f_y27]) := hD
        refine lv_if_eq (tgt := 77) hx hb dL_law_48 (by decide) (fun c_48 => ?_) (fun c_48 => ?_)
        · have hw := hw.1 c_48
          refine lv_iconst (v := 0) hx hb dL_law_77 (by decide) ?_
          have hr1 := hpost _ hw
          have hS9 := hS.2.2
          subst hQ
          exact absurd hr1 (by decide)
        · have hw := hw.2 c_48
          refine lv_iload hx hb dL_law_51 (lv_at hl 0 rfl) ?_
          refine lv_ldc (v := (-900009)) hx hb hown (hts _ (lwM tw768)) dL_law_53 ?_
          refine lv_icmp_eq (tgt := 77) hx hb dL_law_55 (by decide) (fun c_55 => ?_) (fun c_55 => ?_)
          · have hw := hw.1 c_55
            refine lv_iconst (v := 0) hx hb dL_law_77 (by decide) ?_
            have hr1 := hpost _ hw
            have hS9 := hS.2.2
            subst hQ
            exact absurd hr1 (by decide)
          · have hw := hw.2 c_55
            refine lv_iload hx hb dL_law_58 (lv_at hl 0 rfl) ?_
            refine lv_ldcw (v := (-900000)) hx hb hown (hts _ (lwM tw1061)) dL_law_60 ?_
            refine lv_icmp_gt (tgt := 79) hx hb dL_law_63 (by decide) (fun c_63 => ?_) (fun c_63 => ?_)
            · have hw := hw.1 c_63
              exact J79 x2_20 r22 a_y1_20 ra_y1_20 V_y1_v23 at_y27 f_y27 _ _ _ _ _ (by omega) (by omega) hw hP hD hS (lv_sub hl [2, 3, 4, 1, 0] rfl)
            · have hw := hw.2 c_63
              refine lv_aload_n hx hb dL_law_66 rfl (lv_at hl 1 rfl) ?_
              refine lv_aload_n hx hb dL_law_67 rfl (lv_at hl 3 rfl) ?_
              have hP : va_P g.1 vwCl (List.flatten [kDW g a_y1_20 ra_y1_20 V_y1_v23, kAr g at_y27 160 f_y27, ([] : va_W)]) _ := hP
              have hD : va_D A (List.flatten [kDW g a_y1_20 ra_y1_20 V_y1_v23, kAr g at_y27 160 f_y27, ([] : va_W)]) := hD
              refine gCn (bs := [kDW g a_y1_20 ra_y1_20 V_y1_v23, kAr g at_y27 160 f_y27, ([] : va_W)]) (ad := (fun w : DV × (Nat → Nat) × (Nat → Int32) => w.2.1 0)) (wf := (fun w : DV × (Nat → Nat) × (Nat → Int32) => [kDW g a_y1_20 ra_y1_20 w.1, kAr g w.2.1 160 w.2.2])) (gRunSL (As := [.ref (a_y1_20 0 0)]) (rest := [.ref (at_y27 0)]) ⟨hx, hb, hml, hown, hts⟩ (ctL_seen l hl0 g t a_y1_20 ra_y1_20 V_y1_v23 _ hw) (va_cwS 1 hts (goodF gS_L_seen) rfl rfl rfl (by decide +kernel) ⟨Nat.le_of_ble_eq_true rfl, Nat.le_of_ble_eq_true rfl⟩) hE hN hX hS (gFree (bs := [kDW g a_y1_20 ra_y1_20 V_y1_v23, kAr g at_y27 160 f_y27, ([] : va_W)]) hD hS hA [0, 2]) (gSub (bs := [kDW g a_y1_20 ra_y1_20 V_y1_v23, kAr g at_y27 160 f_y27, ([] : va_W)]) hP [0, 2]) (gDSub (bs := [kDW g a_y1_20 ra_y1_20 V_y1_v23, kAr g at_y27 160 f_y27, ([] : va_W)]) hD [0, 2] rfl) rfl rfl hl.1 rfl (lv_room (Nat.le_of_ble_eq_true rfl)) dL_law_68 ⟨(by show _ ≤ 780285; omega), (by show _ ≤ 6751825; omega)⟩) hP hD hS hA [0, 2] rfl (fun _ => rfl) rfl (fun w H locs hw hP hD hS => ?_)
              obtain ⟨V_y1_v28, at_y68, f_y68⟩ := w
              have hw := hw
              have hP : va_P g.1 vwCl (List.flatten [kDW g a_y1_20 ra_y1_20 V_y1_v28, kAr g at_y27 160 f_y27, kAr g at_y68 160 f_y68]) H := hP
              have hD : va_D A (List.flatten [kDW g a_y1_20 ra_y1_20 V_y1_v28, kAr g at_y27 160 f_y27, kAr g at_y68 160 f_y68]) := hD
              refine gCi0 (bs := [kDW g a_y1_20 ra_y1_20 V_y1_v28, kAr g at_y27 160 f_y27, kAr g at_y68 160 f_y68]) (wf := [kAr g at_y27 160 f_y27, kAr g at_y68 160 f_y68]) (gRunSL (As := [.ref (at_y27 0), .ref (at_y68 0)]) (rest := []) ⟨hx, hb, hml, hown, hts⟩ (ctL_areAlike l hl0 g t at_y27 f_y27 at_y68 f_y68 _ hw) (va_cwS 2 hts (goodF gS_L_areAlike) rfl rfl rfl (by decide +kernel) ⟨Nat.le_of_ble_eq_true rfl, Nat.le_of_ble_eq_true rfl⟩) hE hN hX hS (gFree (bs := [kDW g a_y1_20 ra_y1_20 V_y1_v28, kAr g at_y27 160 f_y27, kAr g at_y68 160 f_y68]) hD hS hA [1, 2]) (gSub (bs := [kDW g a_y1_20 ra_y1_20 V_y1_v28, kAr g at_y27 160 f_y27, kAr g at_y68 160 f_y68]) hP [1, 2]) (gDSub (bs := [kDW g a_y1_20 ra_y1_20 V_y1_v28, kAr g at_y27 160 f_y27, kAr g at_y68 160 f_y68]) hD [1, 2] rfl) rfl rfl hl.1 rfl (lv_room (Nat.le_of_ble_eq_true rfl)) dL_law_71 ⟨(by show _ ≤ 780285; omega), (by show _ ≤ 6751825; omega)⟩) hP hD hS hA [1, 2] rfl rfl rfl (fun r29 H locs hw hP hD hS => ?_)
              have hP : va_P g.1 vwCl (List.flatten [kDW g a_y1_20 ra_y1_20 V_y1_v28, kAr g at_y27 160 f_y27, kAr g at_y68 160 f_y68]) H := hP
              have hD : va_D A (List.flatten [kDW g a_y1_20 ra_y1_20 V_y1_v28, kAr g at_y27 160 f_y27, kAr g at_y68 160 f_y68]) := hD
              refine lv_if_ne (tgt := 79) hx hb dL_law_74 (by decide) (fun c_74 => ?_) (fun c_74 => ?_)
              · have hw := hw.1 c_74
                have hP := gSub hP [0, 1]
                have hD := gDSub hD [0, 1] rfl
                exact J79 x2_20 r22 a_y1_20 ra_y1_20 V_y1_v28 at_y27 f_y27 _ _ _ _ _ (by omega) (by omega) hw hP hD hS (lv_sub hl [2, 3, 4, 1, 0] rfl)
              · have hw := hw.2 c_74
                refine lv_iconst (v := 0) hx hb dL_law_77 (by decide) ?_
                have hr1 := hpost _ hw
                have hS9 := hS.2.2
                subst hQ
                exact absurd hr1 (by decide)
  refine lv_aload_n hx hb dL_law_0 rfl (lv_at hl 0 rfl) ?_
  have hP : va_P g.1 vwCl (List.flatten [([] : va_W)]) _ := hP
  have hD : va_D A (List.flatten [([] : va_W)]) := hD
  refine gCn (bs := [([] : va_W)]) (ad := (fun w : (Nat → Nat → Nat) × (Nat → Nat → Nat) × DV => w.1 0 0)) (wf := (fun w : (Nat → Nat → Nat) × (Nat → Nat → Nat) × DV => [kDW g w.1 w.2.1 w.2.2])) (gRunSL (As := [.ref (t.1 60)]) (rest := []) ⟨hx, hb, hml, hown, hts⟩ (ctL_begun l hl0 g t _ z_len z_txt hgz hw) (va_cwS 1 hts (goodF gS_L_begun) rfl rfl rfl (by decide +kernel) ⟨Nat.le_of_ble_eq_true rfl, Nat.le_of_ble_eq_true rfl⟩) hE hN hX hS (gFree (bs := [([] : va_W)]) hD hS hA [0]) (gSub (bs := [([] : va_W)]) hP [0]) (gDSub (bs := [([] : va_W)]) hD [0] rfl) rfl rfl hl.1 rfl (lv_room (Nat.le_of_ble_eq_true rfl)) dL_law_1 ⟨(by show _ ≤ 780285; omega), (by show _ ≤ 6751825; omega)⟩) hP hD hS hA [0] rfl (fun _ => rfl) rfl (fun w H locs hw hP hD hS => ?_)
  obtain ⟨a_y1, ra_y1, V_y1⟩ := w
  have hw := hw
  have hP : va_P g.1 vwCl (List.flatten [kDW g a_y1 ra_y1 V_y1]) H := hP
  have hD : va_D A (List.flatten [kDW g a_y1 ra_y1 V_y1]) := hD
  refine lv_astore_n (lv' := [(1, .ref (a_y1 0 0)), (0, .ref (t.1 60))]) hx hb dL_law_4 rfl hl (by decide) rfl (fun ls hl => ?_)
  refine lv_aload_n hx hb dL_law_5 rfl (lv_at hl 0 rfl) ?_
  refine lv_ifnull hx hb dL_law_6 ?_
  refine lv_aload_n hx hb dL_law_9 rfl (lv_at hl 0 rfl) ?_
  refine gCi1 (bs := [kDW g a_y1 ra_y1 V_y1]) (wf := (fun c1 => [kDW g a_y1 ra_y1 c1])) (gRunSL (As := [.ref (a_y1 0 0)]) (rest := []) ⟨hx, hb, hml, hown, hts⟩ (ctL_isWell l hl0 g t a_y1 ra_y1 V_y1 _ hw) (va_cwS 1 hts (goodF gS_L_isWell) rfl rfl rfl (by decide +kernel) ⟨Nat.le_of_ble_eq_true rfl, Nat.le_of_ble_eq_true rfl⟩) hE hN hX hS (gFree (bs := [kDW g a_y1 ra_y1 V_y1]) hD hS hA [0]) (gSub (bs := [kDW g a_y1 ra_y1 V_y1]) hP [0]) (gDSub (bs := [kDW g a_y1 ra_y1 V_y1]) hD [0] rfl) rfl rfl hl.1 rfl (lv_room (Nat.le_of_ble_eq_true rfl)) dL_law_10 ⟨(by show _ ≤ 780285; omega), (by show _ ≤ 6751825; omega)⟩) hP hD hS hA [0] rfl (fun _ => rfl) rfl (fun r2 V_y1_v2 H locs hw hP hD hS => ?_)
  have hP : va_P g.1 vwCl (List.flatten [kDW g a_y1 ra_y1 V_y1_v2]) H := hP
  have hD : va_D A (List.flatten [kDW g a_y1 ra_y1 V_y1_v2]) := hD
  refine lv_if_ne (tgt := 18) hx hb dL_law_13 (by decide) (fun c_13 => ?_) (fun c_13 => ?_)
  · have hw := hw.1 c_13
    refine lv_iconst (v := 0) hx hb dL_law_18 (by decide) ?_
    refine lv_istore_n (lv' := [(2, .int 0), (1, .ref (a_y1 0 0)), (0, .ref (t.1 60))]) hx hb dL_law_19 rfl hl (by decide) rfl (fun ls hl => ?_)
    obtain ⟨n, hn, hw⟩ := hw
    have hbc := zbud_le (a := 1409) hn
    have hbs := zbud_le (a := 18646) hn
    have hbc : zbud 1409 n ≤ 12681 := hbc
    have hbs : zbud 18646 n ≤ 167814 := hbs
    exact L20 n 0 a_y1 ra_y1 V_y1_v2 _ _ _ _ _ (by omega) (by omega) hw hP hD hS (lv_sub hl [2, 1, 0] rfl)
  · have hw := hw.2 c_13
    refine lv_iconst (v := 0) hx hb dL_law_16 (by decide) ?_
    have hr1 := hpost _ hw
    have hS9 := hS.2.2
    subst hQ
    exact absurd hr1 (by decide)
