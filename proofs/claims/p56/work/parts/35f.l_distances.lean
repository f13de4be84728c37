/-! contract: by program -/
abbrev rmL_distances : Room := { frames := 7, cells := 87, slots := 540, locals := 144 }
set_option maxHeartbeats 8000000 in
set_option maxRecDepth 100000 in
theorem ctL_distances (l : Launch) (hl0 : l.stackTraces = false) (g : GG) (t : GT) (a_dw0 : Nat → Nat → Nat) (ra_dw0 : Nat → Nat → Nat) (V_dw0 : DV) (sz : Nat) {post : DV → (Nat → Nat) → (Nat → Nat → Int32) → Prop} (hw : wpL_distances V_dw0 post) :
    Met l yL_distances wsB_L_distances rmL_distances (gPL g t sz (List.flatten [kDW g a_dw0 ra_dw0 V_dw0]) [.ref (a_dw0 0 0)]) (va_Qr (fun w : DV × (Nat → Nat) × (Nat → Nat → Int32) => post w.1 w.2.1 w.2.2) (fun w a tt => a = (fun w : DV × (Nat → Nat) × (Nat → Nat → Int32) => w.2.1 0) w ∧ gB g (List.flatten [kDW g a_dw0 ra_dw0 V_dw0]) sz (List.flatten ((fun w : DV × (Nat → Nat) × (Nat → Nat → Int32) => [kDW g a_dw0 ra_dw0 w.1, kDd g w.2.1 w.2.2]) w)) tt) (va_A (List.flatten [kDW g a_dw0 ra_dw0 V_dw0]) sz)) 87 540 (va_A (List.flatten [kDW g a_dw0 ra_dw0 V_dw0]) sz) := by
  refine gOfL (cc := cL_distances) (maxL := 5) (ret := (some (.array (.array .int)))) (by decide) rfl (Nat.le_of_ble_eq_true rfl) ?_
  intro p e s m below meth c ls Q A hQ hx hb hr hml hts hown hlocks hE hA0 hsz hP hD hA hS hl hX hN
  have hl : lv_has ls 5 [(0, .ref (a_dw0 0 0))] := hl
  have L108 : ∀ (n : Nat) (x2_108 : Int32) (V_dw0_108 : DV) (at_y4_108 : Nat → Nat) (f_y4_108 : Nat → Nat → Int32) (H : Heap) (locs : List Loc) (ls : Array Slot) (cl sl : Nat), cl + zbud 0 n ≤ 87 → sl + zbud 0 n ≤ 540 → wpL_distances_L108 post n x2_108 V_dw0_108 at_y4_108 f_y4_108 → va_P g.1 vwCl (List.flatten [kDW g a_dw0 ra_dw0 V_dw0_108, kDd g at_y4_108 f_y4_108]) H → va_D A (List.flatten [kDW g a_dw0 ra_dw0 V_dw0_108, kDd g at_y4_108 f_y4_108]) → va_S A s.heap H locs → lv_has ls 5 [(1, .ref (at_y4_108 0)), (2, .int x2_108)] → W p l e rmL_distances s m (([.ref (a_dw0 0 0)] : List Value).toArray) below meth c H locs cl sl Q (F0 m 108 ls []) := by
    intro n_108
    induction n_108 with
    | zero => intro x2_108 V_dw0_108 at_y4_108 f_y4_108 H locs ls cl sl _ _ hw; exact False.elim hw
    | succ n_108 ih_108 =>
      intro x2_108 V_dw0_108 at_y4_108 f_y4_108 H locs ls cl_108 sl_108 hc_108 hs_108 hw hP hD hS hl
      have hc_108 := zbud_s hc_108
      have hs_108 := zbud_s hs_108
      have L116 : ∀ (n : Nat) (x2_116 : Int32) (x3_116 : Int32) (V_dw0_116 : DV) (at_y4_116 : Nat → Nat) (f_y4_116 : Nat → Nat → Int32) (H : Heap) (locs : List Loc) (ls : Array Slot) (cl sl : Nat), cl + zbud 0 n ≤ cl_108 + 0 → sl + zbud 0 n ≤ sl_108 + 0 → wpL_distances_L116 (wpL_distances_L108 post n_108) post n x2_116 x3_116 V_dw0_116 at_y4_116 f_y4_116 → va_P g.1 vwCl (List.flatten [kDW g a_dw0 ra_dw0 V_dw0_116, kDd g at_y4_116 f_y4_116]) H → va_D A (List.flatten [kDW g a_dw0 ra_dw0 V_dw0_116, kDd g at_y4_116 f_y4_116]) → va_S A s.heap H locs → lv_has ls 5 [(1, .ref (at_y4_116 0)), (2, .int x2_116), (3, .int x3_116)] → W p l e rmL_distances s m (([.ref (a_dw0 0 0)] : List Value).toArray) below meth c H locs cl sl Q (F0 m 116 ls []) := by
        intro n_116
        induction n_116 with
        | zero => intro x2_116 x3_116 V_dw0_116 at_y4_116 f_y4_116 H locs ls cl sl _ _ hw; exact False.elim hw
        | succ n_116 ih_116 =>
          intro x2_116 x3_116 V_dw0_116 at_y4_116 f_y4_116 H locs ls cl_116 sl_116 hc_116 hs_116 hw hP hD hS hl
          have hc_116 := zbud_s hc_116
          have hs_116 := zbud_s hs_116
          have L125 : ∀ (n : Nat) (x2_125 : Int32) (x3_125 : Int32) (x4_125 : Int32) (V_dw0_125 : DV) (at_y4_125 : Nat → Nat) (f_y4_125 : Nat → Nat → Int32) (H : Heap) (locs : List Loc) (ls : Array Slot) (cl sl : Nat), cl + zbud 0 n ≤ cl_116 + 0 → sl + zbud 0 n ≤ sl_116 + 0 → wpL_distances_L125 (wpL_distances_L116 (wpL_distances_L108 post n_108) post n_116) (wpL_distances_L108 post n_108) post n x2_125 x3_125 x4_125 V_dw0_125 at_y4_125 f_y4_125 → va_P g.1 vwCl (List.flatten [kDW g a_dw0 ra_dw0 V_dw0_125, kDd g at_y4_125 f_y4_125]) H → va_D A (List.flatten [kDW g a_dw0 ra_dw0 V_dw0_125, kDd g at_y4_125 f_y4_125]) → va_S A s.heap H locs → lv_has ls 5 [(1, .ref (at_y4_125 0)), (2, .int x2_125), (3, .int x3_125), (4, .int x4_125)] → W p l e rmL_distances s m (([.ref (a_dw0 0 0)] : List Value).toArray) below meth c H locs cl sl Q (F0 m 125 ls []) := by
            intro n_125
            induction n_125 with
            | zero => intro x2_125 x3_125 x4_125 V_dw0_125 at_y4_125 f_y4_125 H locs ls cl sl _ _ hw; exact False.elim hw
            | succ n_125 ih_125 =>
              intro x2_125 x3_125 x4_125 V_dw0_125 at_y4_125 f_y4_125 H locs ls cl_125 sl_125 hc_125 hs_125 hw hP hD hS hl
              have hc_125 := zbud_s hc_125
              have hs_125 := zbud_s hs_125
              refine lv_iload hx hb dL_distances_125 (lv_at hl 3 rfl) ?_
              refine lv_bipush (v := 8) hx hb dL_distances_127 (by decide) ?_
              refine lv_icmp_ge (tgt := 165) hx hb dL_distances_129 (by decide) (fun c_129 => ?_) (fun c_129 => ?_)
              · have hw := hw.1 c_129
                refine lv_iinc (v := (x3_125 + 1)) (lv' := [(3, .int (x3_125 + 1)), (1, .ref (at_y4_125 0)), (2, .int x2_125), (4, .int x4_125)]) hx hb dL_distances_165 hl (k := 2) rfl rfl (by decide) rfl (fun ls hl => ?_)
                refine lv_goto (tgt := 116) hx hb dL_distances_168 (by decide) ?_
                exact ih_116 x2_125 (x3_125 + 1) V_dw0_125 at_y4_125 f_y4_125 _ _ _ _ _ (by omega) (by omega) hw hP hD hS (lv_sub hl [1, 2, 0] rfl)
              · have hw := hw.2 c_129
                refine lv_aload_n hx hb dL_distances_132 rfl (lv_at hl 0 rfl) ?_
                refine lv_iload_n hx hb dL_distances_133 rfl (lv_at hl 2 rfl) ?_
                have h2 := hw.1
                have hw := hw.2
                refine kDd_ld hx hb hE hP h2 dL_distances_134 ?_
                refine lv_iload hx hb dL_distances_135 (lv_at hl 3 rfl) ?_
                refine lv_aload_n hx hb dL_distances_137 rfl (lv_at hl 0 rfl) ?_
                refine lv_iload_n hx hb dL_distances_138 rfl (lv_at hl 2 rfl) ?_
                have h3 := hw.1
                have hw := hw.2
                refine kDd_ld hx hb hE hP h3 dL_distances_139 ?_
                refine lv_iload hx hb dL_distances_140 (lv_at hl 3 rfl) ?_
                have h4 := hw.1
                have hw := hw.2
                refine va_iald hx hb hE.1 hP _ 0 (kDd_get (va_lt8 h3)) rfl h4 dL_distances_142 ?_
                refine lv_aload_n hx hb dL_distances_143 rfl (lv_at hl 0 rfl) ?_
                refine lv_iload_n hx hb dL_distances_144 rfl (lv_at hl 2 rfl) ?_
                have h5 := hw.1
                have hw := hw.2
                refine kDd_ld hx hb hE hP h5 dL_distances_145 ?_
                refine lv_iload_n hx hb dL_distances_146 rfl (lv_at hl 1 rfl) ?_
                have h6 := hw.1
                have hw := hw.2
                refine va_iald hx hb hE.1 hP _ 0 (kDd_get (va_lt8 h5)) rfl h6 dL_distances_147 ?_
                refine lv_aload_n hx hb dL_distances_148 rfl (lv_at hl 0 rfl) ?_
                refine lv_iload_n hx hb dL_distances_149 rfl (lv_at hl 1 rfl) ?_
                have h7 := hw.1
                have hw := hw.2
                refine kDd_ld hx hb hE hP h7 dL_distances_150 ?_
                refine lv_iload hx hb dL_distances_151 (lv_at hl 3 rfl) ?_
                have h8 := hw.1
                have hw := hw.2
                refine va_iald hx hb hE.1 hP _ 0 (kDd_get (va_lt8 h7)) rfl h8 dL_distances_153 ?_
                refine lv_iadd hx hb dL_distances_154 ?_
                refine va_mmin hx hb (hml.trans hl.1.symm) hown (hts _ (lwM tw716)) (hts _ (lwM tw55)) (hts _ (lwM tw54)) (hts _ (lwM tw53)) (Nat.le_of_ble_eq_true rfl) (Nat.le_of_ble_eq_true rfl) (by show _ ≤ 87; omega) (by show _ ≤ 540; omega) dL_distances_155 ?_
                have h9 := hw.1
                have hw := hw.2
                refine va_iast hx hb hE.1 hP hD hS _ 0 (kDd_get (va_lt8 h5)) rfl h9 dL_distances_158 (fun H locs hP hD hS => ?_)
                rw [kDd_set (va_lt8 h5)] at hP hD
                have hP : va_P g.1 vwCl (List.flatten [kDW g a_dw0 ra_dw0 V_dw0_125, kDd g at_y4_125 (zd_up f_y4_125 x3_125.toNatClampNeg x4_125.toNatClampNeg (if ((f_y4_125 x3_125.toNatClampNeg x2_125.toNatClampNeg) + (f_y4_125 x2_125.toNatClampNeg x4_125.toNatClampNeg)) < (f_y4_125 x3_125.toNatClampNeg x4_125.toNatClampNeg) then ((f_y4_125 x3_125.toNatClampNeg x2_125.toNatClampNeg) + (f_y4_125 x2_125.toNatClampNeg x4_125.toNatClampNeg)) else (f_y4_125 x3_125.toNatClampNeg x4_125.toNatClampNeg)))]) H := hP
                have hD : va_D A (List.flatten [kDW g a_dw0 ra_dw0 V_dw0_125, kDd g at_y4_125 (zd_up f_y4_125 x3_125.toNatClampNeg x4_125.toNatClampNeg (if ((f_y4_125 x3_125.toNatClampNeg x2_125.toNatClampNeg) + (f_y4_125 x2_125.toNatClampNeg x4_125.toNatClampNeg)) < (f_y4_125 x3_125.toNatClampNeg x4_125.toNatClampNeg) then ((f_y4_125 x3_125.toNatClampNeg x2_125.toNatClampNeg) + (f_y4_125 x2_125.toNatClampNeg x4_125.toNatClampNeg)) else (f_y4_125 x3_125.toNatClampNeg x4_125.toNatClampNeg)))]) := hD
                refine lv_iinc (v := (x4_125 + 1)) (lv' := [(4, .int (x4_125 + 1)), (1, .ref (at_y4_125 0)), (2, .int x2_125), (3, .int x3_125)]) hx hb dL_distances_159 hl (k := 3) rfl rfl (by decide) rfl (fun ls hl => ?_)
                refine lv_goto (tgt := 125) hx hb dL_distances_162 (by decide) ?_
                exact ih_125 x2_125 x3_125 (x4_125 + 1) V_dw0_125 at_y4_125 (zd_up f_y4_125 x3_125.toNatClampNeg x4_125.toNatClampNeg (if ((f_y4_125 x3_125.toNatClampNeg x2_125.toNatClampNeg) + (f_y4_125 x2_125.toNatClampNeg x4_125.toNatClampNeg)) < (f_y4_125 x3_125.toNatClampNeg x4_125.toNatClampNeg) then ((f_y4_125 x3_125.toNatClampNeg x2_125.toNatClampNeg) + (f_y4_125 x2_125.toNatClampNeg x4_125.toNatClampNeg)) else (f_y4_125 x3_125.toNatClampNeg x4_125.toNatClampNeg))) _ _ _ _ _ (by omega) (by omega) hw hP hD hS (lv_sub hl [1, 2, 3, 0] rfl)
          refine lv_iload_n hx hb dL_distances_116 rfl (lv_at hl 2 rfl) ?_
          refine lv_bipush (v := 8) hx hb dL_distances_117 (by decide) ?_
          refine lv_icmp_ge (tgt := 171) hx hb dL_distances_119 (by decide) (fun c_119 => ?_) (fun c_119 => ?_)
          · have hw := hw.1 c_119
            refine lv_iinc (v := (x2_116 + 1)) (lv' := [(2, .int (x2_116 + 1)), (1, .ref (at_y4_116 0)), (3, .int x3_116)]) hx hb dL_distances_171 hl (k := 1) rfl rfl (by decide) rfl (fun ls hl => ?_)
            refine lv_goto (tgt := 108) hx hb dL_distances_174 (by decide) ?_
            exact ih_108 (x2_116 + 1) V_dw0_116 at_y4_116 f_y4_116 _ _ _ _ _ (by omega) (by omega) hw hP hD hS (lv_sub hl [1, 0] rfl)
          · have hw := hw.2 c_119
            refine lv_iconst (v := 0) hx hb dL_distances_122 (by decide) ?_
            refine lv_istore (lv' := [(4, .int 0), (1, .ref (at_y4_116 0)), (2, .int x2_116), (3, .int x3_116)]) hx hb dL_distances_123 hl (by decide) rfl (fun ls hl => ?_)
            obtain ⟨n, hn, hw⟩ := hw
            have hbc := zbud_le (a := 0) hn
            have hbs := zbud_le (a := 0) hn
            have hbc : zbud 0 n ≤ 0 := hbc
            have hbs : zbud 0 n ≤ 0 := hbs
            exact L125 n x2_116 x3_116 0 V_dw0_116 at_y4_116 f_y4_116 _ _ _ _ _ (by omega) (by omega) hw hP hD hS (lv_sub hl [1, 2, 3, 0] rfl)
      refine lv_iload_n hx hb dL_distances_108 rfl (lv_at hl 1 rfl) ?_
      refine lv_bipush (v := 8) hx hb dL_distances_109 (by decide) ?_
      refine lv_icmp_ge (tgt := 177) hx hb dL_distances_111 (by decide) (fun c_111 => ?_) (fun c_111 => ?_)
      · have hw := hw.1 c_111
        refine lv_aload_n hx hb dL_distances_177 rfl (lv_at hl 0 rfl) ?_
        subst hQ
        refine W.widen (k := 87) (n := 540) (by omega) (by omega) ?_
        exact W.aret hx hb hr (Or.inr ⟨_, rfl⟩) (Or.inr ⟨_, rfl⟩) (gRn (w := (V_dw0_108, at_y4_108, f_y4_108)) (ad := (fun w : DV × (Nat → Nat) × (Nat → Nat → Int32) => w.2.1 0)) (wf := (fun w : DV × (Nat → Nat) × (Nat → Nat → Int32) => [kDW g a_dw0 ra_dw0 w.1, kDd g w.2.1 w.2.2])) hA0 hsz hw hP hD hS) hS.2.2 dL_distances_178
      · have hw := hw.2 c_111
        refine lv_iconst (v := 0) hx hb dL_distances_114 (by decide) ?_
        refine lv_istore_n (lv' := [(3, .int 0), (1, .ref (at_y4_108 0)), (2, .int x2_108)]) hx hb dL_distances_115 rfl hl (by decide) rfl (fun ls hl => ?_)
        obtain ⟨n, hn, hw⟩ := hw
        have hbc := zbud_le (a := 0) hn
        have hbs := zbud_le (a := 0) hn
        have hbc : zbud 0 n ≤ 0 := hbc
        have hbs : zbud 0 n ≤ 0 := hbs
        exact L116 n x2_108 0 V_dw0_108 at_y4_108 f_y4_108 _ _ _ _ _ (by omega) (by omega) hw hP hD hS (lv_sub hl [1, 2, 0] rfl)
  have L56 : ∀ (n : Nat) (x2_56 : Int32) (V_dw0_56 : DV) (at_y4_56 : Nat → Nat) (f_y4_56 : Nat → Nat → Int32) (H : Heap) (locs : List Loc) (ls : Array Slot) (cl sl : Nat), cl + zbud 6 n ≤ 87 → sl + zbud 36 n ≤ 540 → wpL_distances_L56 post n x2_56 V_dw0_56 at_y4_56 f_y4_56 → va_P g.1 vwCl (List.flatten [kDW g a_dw0 ra_dw0 V_dw0_56, kDd g at_y4_56 f_y4_56]) H → va_D A (List.flatten [kDW g a_dw0 ra_dw0 V_dw0_56, kDd g at_y4_56 f_y4_56]) → va_S A s.heap H locs → lv_has ls 5 [(0, .ref (a_dw0 0 0)), (1, .ref (at_y4_56 0)), (2, .int x2_56)] → W p l e rmL_distances s m (([.ref (a_dw0 0 0)] : List Value).toArray) below meth c H locs cl sl Q (F0 m 56 ls []) := by
    intro n_56
    induction n_56 with
    | zero => intro x2_56 V_dw0_56 at_y4_56 f_y4_56 H locs ls cl sl _ _ hw; exact False.elim hw
    | succ n_56 ih_56 =>
      intro x2_56 V_dw0_56 at_y4_56 f_y4_56 H locs ls cl_56 sl_56 hc_56 hs_56 hw hP hD hS hl
      have hc_56 := zbud_s hc_56
      have hs_56 := zbud_s hs_56
      refine lv_iload_n hx hb dL_distances_56 rfl (lv_at hl 2 rfl) ?_
      refine lv_aload_n hx hb dL_distances_57 rfl (lv_at hl 0 rfl) ?_
      refine gCi1 (bs := [kDW g a_dw0 ra_dw0 V_dw0_56, kDd g at_y4_56 f_y4_56]) (wf := (fun v => [kDW g a_dw0 ra_dw0 v])) (gRunVL (As := []) (rest := [.int x2_56]) ⟨hx, hb, hml, hown, hts⟩ (gMetL (ctP_streetCount l hl0 g t a_dw0 ra_dw0 _ V_dw0_56 hw)) (cwV 0 hts (goodF gV_X6_streetCount) rfl rfl rfl (by decide +kernel) ⟨Nat.le_of_ble_eq_true rfl, Nat.le_of_ble_eq_true rfl⟩) hE hN hX hS (gFree (bs := [kDW g a_dw0 ra_dw0 V_dw0_56, kDd g at_y4_56 f_y4_56]) hD hS hA [0]) (gSub (bs := [kDW g a_dw0 ra_dw0 V_dw0_56, kDd g at_y4_56 f_y4_56]) hP [0]) (gDSub (bs := [kDW g a_dw0 ra_dw0 V_dw0_56, kDd g at_y4_56 f_y4_56]) hD [0] rfl) 0 10 rfl rfl rfl rfl rfl hl.1 rfl (lv_room (Nat.le_of_ble_eq_true rfl)) dL_distances_58 ⟨(by show _ ≤ 87; omega), (by show _ ≤ 540; omega)⟩) hP hD hS hA [0] rfl (fun _ => rfl) rfl (fun r1 V_v1 H locs hw hP hD hS => ?_)
      have hP : va_P g.1 vwCl (List.flatten [kDW g a_dw0 ra_dw0 V_v1, kDd g at_y4_56 f_y4_56]) H := hP
      have hD : va_D A (List.flatten [kDW g a_dw0 ra_dw0 V_v1, kDd g at_y4_56 f_y4_56]) := hD
      refine lv_icmp_ge (tgt := 106) hx hb dL_distances_61 (by decide) (fun c_61 => ?_) (fun c_61 => ?_)
      · have hw := hw.1 c_61
        refine lv_iconst (v := 0) hx hb dL_distances_106 (by decide) ?_
        refine lv_istore_n (lv' := [(2, .int 0), (0, .ref (a_dw0 0 0)), (1, .ref (at_y4_56 0))]) hx hb dL_distances_107 rfl hl (by decide) rfl (fun ls hl => ?_)
        obtain ⟨n, hn, hw⟩ := hw
        have hbc := zbud_le (a := 0) hn
        have hbs := zbud_le (a := 0) hn
        have hbc : zbud 0 n ≤ 0 := hbc
        have hbs : zbud 0 n ≤ 0 := hbs
        exact L108 n 0 V_v1 at_y4_56 f_y4_56 _ _ _ _ _ (by omega) (by omega) hw hP hD hS (lv_sub hl [2, 0] rfl)
      · have hw := hw.2 c_61
        refine lv_aload_n hx hb dL_distances_64 rfl (lv_at hl 1 rfl) ?_
        refine lv_aload_n hx hb dL_distances_65 rfl (lv_at hl 0 rfl) ?_
        refine lv_iload_n hx hb dL_distances_66 rfl (lv_at hl 2 rfl) ?_
        refine gCi1 (bs := [kDW g a_dw0 ra_dw0 V_v1, kDd g at_y4_56 f_y4_56]) (wf := (fun v => [kDW g a_dw0 ra_dw0 v])) (gRunVL (As := [.int x2_56]) (rest := [.ref (at_y4_56 0)]) ⟨hx, hb, hml, hown, hts⟩ (gMetL (ctP_lowerEnd l hl0 g t a_dw0 ra_dw0 _ V_v1 x2_56 (show wpD_lowerEnd x2_56 V_v1 _ from hw))) (cwV 1 hts (goodF gV_X6_lowerEnd) rfl rfl rfl (by decide +kernel) ⟨Nat.le_of_ble_eq_true rfl, Nat.le_of_ble_eq_true rfl⟩) hE hN hX hS (gFree (bs := [kDW g a_dw0 ra_dw0 V_v1, kDd g at_y4_56 f_y4_56]) hD hS hA [0]) (gSub (bs := [kDW g a_dw0 ra_dw0 V_v1, kDd g at_y4_56 f_y4_56]) hP [0]) (gDSub (bs := [kDW g a_dw0 ra_dw0 V_v1, kDd g at_y4_56 f_y4_56]) hD [0] rfl) 0 10 rfl rfl rfl rfl rfl hl.1 rfl (lv_room (Nat.le_of_ble_eq_true rfl)) dL_distances_67 ⟨(by show _ ≤ 87; omega), (by show _ ≤ 540; omega)⟩) hP hD hS hA [0] rfl (fun _ => rfl) rfl (fun r10 V_v10 H locs hw hP hD hS => ?_)
        have hP : va_P g.1 vwCl (List.flatten [kDW g a_dw0 ra_dw0 V_v10, kDd g at_y4_56 f_y4_56]) H := hP
        have hD : va_D A (List.flatten [kDW g a_dw0 ra_dw0 V_v10, kDd g at_y4_56 f_y4_56]) := hD
        have h11 := hw.1
        have hw := hw.2
        refine kDd_ld hx hb hE hP h11 dL_distances_70 ?_
        refine lv_aload_n hx hb dL_distances_71 rfl (lv_at hl 0 rfl) ?_
        refine lv_iload_n hx hb dL_distances_72 rfl (lv_at hl 2 rfl) ?_
        refine gCi1 (bs := [kDW g a_dw0 ra_dw0 V_v10, kDd g at_y4_56 f_y4_56]) (wf := (fun v => [kDW g a_dw0 ra_dw0 v])) (gRunVL (As := [.int x2_56]) (rest := [.ref (at_y4_56 (1 + r10.toNatClampNeg))]) ⟨hx, hb, hml, hown, hts⟩ (gMetL (ctP_higherEnd l hl0 g t a_dw0 ra_dw0 _ V_v10 x2_56 (show wpD_higherEnd x2_56 V_v10 _ from hw))) (cwV 1 hts (goodF gV_X6_higherEnd) rfl rfl rfl (by decide +kernel) ⟨Nat.le_of_ble_eq_true rfl, Nat.le_of_ble_eq_true rfl⟩) hE hN hX hS (gFree (bs := [kDW g a_dw0 ra_dw0 V_v10, kDd g at_y4_56 f_y4_56]) hD hS hA [0]) (gSub (bs := [kDW g a_dw0 ra_dw0 V_v10, kDd g at_y4_56 f_y4_56]) hP [0]) (gDSub (bs := [kDW g a_dw0 ra_dw0 V_v10, kDd g at_y4_56 f_y4_56]) hD [0] rfl) 0 10 rfl rfl rfl rfl rfl hl.1 rfl (lv_room (Nat.le_of_ble_eq_true rfl)) dL_distances_73 ⟨(by show _ ≤ 87; omega), (by show _ ≤ 540; omega)⟩) hP hD hS hA [0] rfl (fun _ => rfl) rfl (fun r12 V_v12 H locs hw hP hD hS => ?_)
        have hP : va_P g.1 vwCl (List.flatten [kDW g a_dw0 ra_dw0 V_v12, kDd g at_y4_56 f_y4_56]) H := hP
        have hD : va_D A (List.flatten [kDW g a_dw0 ra_dw0 V_v12, kDd g at_y4_56 f_y4_56]) := hD
        refine lv_aload_n hx hb dL_distances_76 rfl (lv_at hl 0 rfl) ?_
        refine lv_iload_n hx hb dL_distances_77 rfl (lv_at hl 2 rfl) ?_
        refine gCi1 (bs := [kDW g a_dw0 ra_dw0 V_v12, kDd g at_y4_56 f_y4_56]) (wf := (fun v => [kDW g a_dw0 ra_dw0 v])) (gRunVL (As := [.int x2_56]) (rest := [.int r12, .ref (at_y4_56 (1 + r10.toNatClampNeg))]) ⟨hx, hb, hml, hown, hts⟩ (gMetL (ctP_length l hl0 g t a_dw0 ra_dw0 _ V_v12 x2_56 (show wpD_length x2_56 V_v12 _ from hw))) (cwV 1 hts (goodF gV_X6_length) rfl rfl rfl (by decide +kernel) ⟨Nat.le_of_ble_eq_true rfl, Nat.le_of_ble_eq_true rfl⟩) hE hN hX hS (gFree (bs := [kDW g a_dw0 ra_dw0 V_v12, kDd g at_y4_56 f_y4_56]) hD hS hA [0]) (gSub (bs := [kDW g a_dw0 ra_dw0 V_v12, kDd g at_y4_56 f_y4_56]) hP [0]) (gDSub (bs := [kDW g a_dw0 ra_dw0 V_v12, kDd g at_y4_56 f_y4_56]) hD [0] rfl) 0 10 rfl rfl rfl rfl rfl hl.1 rfl (lv_room (Nat.le_of_ble_eq_true rfl)) dL_distances_78 ⟨(by show _ ≤ 87; omega), (by show _ ≤ 540; omega)⟩) hP hD hS hA [0] rfl (fun _ => rfl) rfl (fun r13 V_v13 H locs hw hP hD hS => ?_)
        have hP : va_P g.1 vwCl (List.flatten [kDW g a_dw0 ra_dw0 V_v13, kDd g at_y4_56 f_y4_56]) H := hP
        have hD : va_D A (List.flatten [kDW g a_dw0 ra_dw0 V_v13, kDd g at_y4_56 f_y4_56]) := hD
        have h14 := hw.1
        have hw := hw.2
        refine va_iast hx hb hE.1 hP hD hS _ 0 (kDd_get (va_lt8 h11)) rfl h14 dL_distances_81 (fun H locs hP hD hS => ?_)
        rw [kDd_set (va_lt8 h11)] at hP hD
        have hP : va_P g.1 vwCl (List.flatten [kDW g a_dw0 ra_dw0 V_v13, kDd g at_y4_56 (zd_up f_y4_56 r10.toNatClampNeg r12.toNatClampNeg r13)]) H := hP
        have hD : va_D A (List.flatten [kDW g a_dw0 ra_dw0 V_v13, kDd g at_y4_56 (zd_up f_y4_56 r10.toNatClampNeg r12.toNatClampNeg r13)]) := hD
        refine lv_aload_n hx hb dL_distances_82 rfl (lv_at hl 1 rfl) ?_
        refine lv_aload_n hx hb dL_distances_83 rfl (lv_at hl 0 rfl) ?_
        refine lv_iload_n hx hb dL_distances_84 rfl (lv_at hl 2 rfl) ?_
        refine gCi1 (bs := [kDW g a_dw0 ra_dw0 V_v13, kDd g at_y4_56 (zd_up f_y4_56 r10.toNatClampNeg r12.toNatClampNeg r13)]) (wf := (fun v => [kDW g a_dw0 ra_dw0 v])) (gRunVL (As := [.int x2_56]) (rest := [.ref (at_y4_56 0)]) ⟨hx, hb, hml, hown, hts⟩ (gMetL (ctP_higherEnd l hl0 g t a_dw0 ra_dw0 _ V_v13 x2_56 (show wpD_higherEnd x2_56 V_v13 _ from hw))) (cwV 1 hts (goodF gV_X6_higherEnd) rfl rfl rfl (by decide +kernel) ⟨Nat.le_of_ble_eq_true rfl, Nat.le_of_ble_eq_true rfl⟩) hE hN hX hS (gFree (bs := [kDW g a_dw0 ra_dw0 V_v13, kDd g at_y4_56 (zd_up f_y4_56 r10.toNatClampNeg r12.toNatClampNeg r13)]) hD hS hA [0]) (gSub (bs := [kDW g a_dw0 ra_dw0 V_v13, kDd g at_y4_56 (zd_up f_y4_56 r10.toNatClampNeg r12.toNatClampNeg r13)]) hP [0]) (gDSub (bs := [kDW g a_dw0 ra_dw0 V_v13, kDd g at_y4_56 (zd_up f_y4_56 r10.toNatClampNeg r12.toNatClampNeg r13)]) hD [0] rfl) 0 10 rfl rfl rfl rfl rfl hl.1 rfl (lv_room (Nat.le_of_ble_eq_true rfl)) dL_distances_85 ⟨(by show _ ≤ 87; omega), (by show _ ≤ 540; omega)⟩) hP hD hS hA [0] rfl (fun _ => rfl) rfl (fun r15 V_v15 H locs hw hP hD hS => ?_)
        have hP : va_P g.1 vwCl (List.flatten [kDW g a_dw0 ra_dw0 V_v15, kDd g at_y4_56 (zd_up f_y4_56 r10.toNatClampNeg r12.toNatClampNeg r13)]) H := hP
        have hD : va_D A (List.flatten [kDW g a_dw0 ra_dw0 V_v15, kDd g at_y4_56 (zd_up f_y4_56 r10.toNatClampNeg r12.toNatClampNeg r13)]) := hD
        have h16 := hw.1
        have hw := hw.2
        refine kDd_ld hx hb hE hP h16 dL_distances_88 ?_
        refine lv_aload_n hx hb dL_distances_89 rfl (lv_at hl 0 rfl) ?_
        refine lv_iload_n hx hb dL_distances_90 rfl (lv_at hl 2 rfl) ?_
        refine gCi1 (bs := [kDW g a_dw0 ra_dw0 V_v15, kDd g at_y4_56 (zd_up f_y4_56 r10.toNatClampNeg r12.toNatClampNeg r13)]) (wf := (fun v => [kDW g a_dw0 ra_dw0 v])) (gRunVL (As := [.int x2_56]) (rest := [.ref (at_y4_56 (1 + r15.toNatClampNeg))]) ⟨hx, hb, hml, hown, hts⟩ (gMetL (ctP_lowerEnd l hl0 g t a_dw0 ra_dw0 _ V_v15 x2_56 (show wpD_lowerEnd x2_56 V_v15 _ from hw))) (cwV 1 hts (goodF gV_X6_lowerEnd) rfl rfl rfl (by decide +kernel) ⟨Nat.le_of_ble_eq_true rfl, Nat.le_of_ble_eq_true rfl⟩) hE hN hX hS (gFree (bs := [kDW g a_dw0 ra_dw0 V_v15, kDd g at_y4_56 (zd_up f_y4_56 r10.toNatClampNeg r12.toNatClampNeg r13)]) hD hS hA [0]) (gSub (bs := [kDW g a_dw0 ra_dw0 V_v15, kDd g at_y4_56 (zd_up f_y4_56 r10.toNatClampNeg r12.toNatClampNeg r13)]) hP [0]) (gDSub (bs := [kDW g a_dw0 ra_dw0 V_v15, kDd g at_y4_56 (zd_up f_y4_56 r10.toNatClampNeg r12.toNatClampNeg r13)]) hD [0] rfl) 0 10 rfl rfl rfl rfl rfl hl.1 rfl (lv_room (Nat.le_of_ble_eq_true rfl)) dL_distances_91 ⟨(by show _ ≤ 87; omega), (by show _ ≤ 540; omega)⟩) hP hD hS hA [0] rfl (fun _ => rfl) rfl (fun r17 V_v17 H locs hw hP hD hS => ?_)
        have hP : va_P g.1 vwCl (List.flatten [kDW g a_dw0 ra_dw0 V_v17, kDd g at_y4_56 (zd_up f_y4_56 r10.toNatClampNeg r12.toNatClampNeg r13)]) H := hP
        have hD : va_D A (List.flatten [kDW g a_dw0 ra_dw0 V_v17, kDd g at_y4_56 (zd_up f_y4_56 r10.toNatClampNeg r12.toNatClampNeg r13)]) := hD
        refine lv_aload_n hx hb dL_distances_94 rfl (lv_at hl 0 rfl) ?_
        refine lv_iload_n hx hb dL_distances_95 rfl (lv_at hl 2 rfl) ?_
        refine gCi1 (bs := [kDW g a_dw0 ra_dw0 V_v17, kDd g at_y4_56 (zd_up f_y4_56 r10.toNatClampNeg r12.toNatClampNeg r13)]) (wf := (fun v => [kDW g a_dw0 ra_dw0 v])) (gRunVL (As := [.int x2_56]) (rest := [.int r17, .ref (at_y4_56 (1 + r15.toNatClampNeg))]) ⟨hx, hb, hml, hown, hts⟩ (gMetL (ctP_length l hl0 g t a_dw0 ra_dw0 _ V_v17 x2_56 (show wpD_length x2_56 V_v17 _ from hw))) (cwV 1 hts (goodF gV_X6_length) rfl rfl rfl (by decide +kernel) ⟨Nat.le_of_ble_eq_true rfl, Nat.le_of_ble_eq_true rfl⟩) hE hN hX hS (gFree (bs := [kDW g a_dw0 ra_dw0 V_v17, kDd g at_y4_56 (zd_up f_y4_56 r10.toNatClampNeg r12.toNatClampNeg r13)]) hD hS hA [0]) (gSub (bs := [kDW g a_dw0 ra_dw0 V_v17, kDd g at_y4_56 (zd_up f_y4_56 r10.toNatClampNeg r12.toNatClampNeg r13)]) hP [0]) (gDSub (bs := [kDW g a_dw0 ra_dw0 V_v17, kDd g at_y4_56 (zd_up f_y4_56 r10.toNatClampNeg r12.toNatClampNeg r13)]) hD [0] rfl) 0 10 rfl rfl rfl rfl rfl hl.1 rfl (lv_room (Nat.le_of_ble_eq_true rfl)) dL_distances_96 ⟨(by show _ ≤ 87; omega), (by show _ ≤ 540; omega)⟩) hP hD hS hA [0] rfl (fun _ => rfl) rfl (fun r18 V_v18 H locs hw hP hD hS => ?_)
        have hP : va_P g.1 vwCl (List.flatten [kDW g a_dw0 ra_dw0 V_v18, kDd g at_y4_56 (zd_up f_y4_56 r10.toNatClampNeg r12.toNatClampNeg r13)]) H := hP
        have hD : va_D A (List.flatten [kDW g a_dw0 ra_dw0 V_v18, kDd g at_y4_56 (zd_up f_y4_56 r10.toNatClampNeg r12.toNatClampNeg r13)]) := hD
        have h19 := hw.1
        have hw := hw.2
        refine va_iast hx hb hE.1 hP hD hS _ 0 (kDd_get (va_lt8 h16)) rfl h19 dL_distances_99 (fun H locs hP hD hS => ?_)
        rw [kDd_set (va_lt8 h16)] at hP hD
        have hP : va_P g.1 vwCl (List.flatten [kDW g a_dw0 ra_dw0 V_v18, kDd g at_y4_56 (zd_up (zd_up f_y4_56 r10.toNatClampNeg r12.toNatClampNeg r13) r15.toNatClampNeg r17.toNatClampNeg r18)]) H := hP
        have hD : va_D A (List.flatten [kDW g a_dw0 ra_dw0 V_v18, kDd g at_y4_56 (zd_up (zd_up f_y4_56 r10.toNatClampNeg r12.toNatClampNeg r13) r15.toNatClampNeg r17.toNatClampNeg r18)]) := hD
        refine lv_iinc (v := (x2_56 + 1)) (lv' := [(2, .int (x2_56 + 1)), (0, .ref (a_dw0 0 0)), (1, .ref (at_y4_56 0))]) hx hb dL_distances_100 hl (k := 2) rfl rfl (by decide) rfl (fun ls hl => ?_)
        refine lv_goto (tgt := 56) hx hb dL_distances_103 (by decide) ?_
        exact ih_56 (x2_56 + 1) V_v18 at_y4_56 (zd_up (zd_up f_y4_56 r10.toNatClampNeg r12.toNatClampNeg r13) r15.toNatClampNeg r17.toNatClampNeg r18) _ _ _ _ _ (by omega) (by omega) hw hP hD hS (lv_sub hl [1, 2, 0] rfl)
  have L11 : ∀ (n : Nat) (x2_11 : Int32) (V_dw0_11 : DV) (at_y4_11 : Nat → Nat) (f_y4_11 : Nat → Nat → Int32) (H : Heap) (locs : List Loc) (ls : Array Slot) (cl sl : Nat), cl + zbud 0 n ≤ 9 → sl + zbud 0 n ≤ 72 → wpL_distances_L11 post n x2_11 V_dw0_11 at_y4_11 f_y4_11 → va_P g.1 vwCl (List.flatten [kDW g a_dw0 ra_dw0 V_dw0_11, kDd g at_y4_11 f_y4_11]) H → va_D A (List.flatten [kDW g a_dw0 ra_dw0 V_dw0_11, kDd g at_y4_11 f_y4_11]) → va_S A s.heap H locs → lv_has ls 5 [(0, .ref (a_dw0 0 0)), (1, .ref (at_y4_11 0)), (2, .int x2_11)] → W p l e rmL_distances s m (([.ref (a_dw0 0 0)] : List Value).toArray) below meth c H locs cl sl Q (F0 m 11 ls []) := by
    intro n_11
    induction n_11 with
    | zero => intro x2_11 V_dw0_11 at_y4_11 f_y4_11 H locs ls cl sl _ _ hw; exact False.elim hw
    | succ n_11 ih_11 =>
      intro x2_11 V_dw0_11 at_y4_11 f_y4_11 H locs ls cl_11 sl_11 hc_11 hs_11 hw hP hD hS hl
      have hc_11 := zbud_s hc_11
      have hs_11 := zbud_s hs_11
      have L19 : ∀ (n : Nat) (x2_19 : Int32) (x3_19 : Int32) (V_dw0_19 : DV) (at_y4_19 : Nat → Nat) (f_y4_19 : Nat → Nat → Int32) (H : Heap) (locs : List Loc) (ls : Array Slot) (cl sl : Nat), cl + zbud 0 n ≤ cl_11 + 0 → sl + zbud 0 n ≤ sl_11 + 0 → wpL_distances_L19 (wpL_distances_L11 post n_11) post n x2_19 x3_19 V_dw0_19 at_y4_19 f_y4_19 → va_P g.1 vwCl (List.flatten [kDW g a_dw0 ra_dw0 V_dw0_19, kDd g at_y4_19 f_y4_19]) H → va_D A (List.flatten [kDW g a_dw0 ra_dw0 V_dw0_19, kDd g at_y4_19 f_y4_19]) → va_S A s.heap H locs → lv_has ls 5 [(0, .ref (a_dw0 0 0)), (1, .ref (at_y4_19 0)), (2, .int x2_19), (3, .int x3_19)] → W p l e rmL_distances s m (([.ref (a_dw0 0 0)] : List Value).toArray) below meth c H locs cl sl Q (F0 m 19 ls []) := by
        intro n_19
        induction n_19 with
        | zero => intro x2_19 x3_19 V_dw0_19 at_y4_19 f_y4_19 H locs ls cl sl _ _ hw; exact False.elim hw
        | succ n_19 ih_19 =>
          intro x2_19 x3_19 V_dw0_19 at_y4_19 f_y4_19 H locs ls cl_19 sl_19 hc_19 hs_19 hw hP hD hS hl
          have hc_19 := zbud_s hc_19
          have hs_19 := zbud_s hs_19
          refine lv_iload_n hx hb dL_distances_19 rfl (lv_at hl 3 rfl) ?_
          refine lv_bipush (v := 8) hx hb dL_distances_20 (by decide) ?_
          refine lv_icmp_ge (tgt := 48) hx hb dL_distances_22 (by decide) (fun c_22 => ?_) (fun c_22 => ?_)
          · have hw := hw.1 c_22
            refine lv_iinc (v := (x2_19 + 1)) (lv' := [(2, .int (x2_19 + 1)), (0, .ref (a_dw0 0 0)), (1, .ref (at_y4_19 0)), (3, .int x3_19)]) hx hb dL_distances_48 hl (k := 2) rfl rfl (by decide) rfl (fun ls hl => ?_)
            refine lv_goto (tgt := 11) hx hb dL_distances_51 (by decide) ?_
            exact ih_11 (x2_19 + 1) V_dw0_19 at_y4_19 f_y4_19 _ _ _ _ _ (by omega) (by omega) hw hP hD hS (lv_sub hl [1, 2, 0] rfl)
          · have hw := hw.2 c_22
            refine lv_aload_n hx hb dL_distances_25 rfl (lv_at hl 1 rfl) ?_
            refine lv_iload_n hx hb dL_distances_26 rfl (lv_at hl 2 rfl) ?_
            have h20 := hw.1
            have hw := hw.2
            refine kDd_ld hx hb hE hP h20 dL_distances_27 ?_
            refine lv_iload_n hx hb dL_distances_28 rfl (lv_at hl 3 rfl) ?_
            refine lv_iload_n hx hb dL_distances_29 rfl (lv_at hl 2 rfl) ?_
            refine lv_iload_n hx hb dL_distances_30 rfl (lv_at hl 3 rfl) ?_
            refine lv_icmp_ne (tgt := 38) hx hb dL_distances_31 (by decide) (fun c_31 => ?_) (fun c_31 => ?_)
            · have hw := hw.1 c_31
              refine lv_sipush (v := 9999) hx hb dL_distances_38 (by decide) ?_
              have h21 := hw.1
              have hw := hw.2
              refine va_iast hx hb hE.1 hP hD hS _ 0 (kDd_get (va_lt8 h20)) rfl h21 dL_distances_41 (fun H locs hP hD hS => ?_)
              rw [kDd_set (va_lt8 h20)] at hP hD
              have hP : va_P g.1 vwCl (List.flatten [kDW g a_dw0 ra_dw0 V_dw0_19, kDd g at_y4_19 (zd_up f_y4_19 x2_19.toNatClampNeg x3_19.toNatClampNeg 9999)]) H := hP
              have hD : va_D A (List.flatten [kDW g a_dw0 ra_dw0 V_dw0_19, kDd g at_y4_19 (zd_up f_y4_19 x2_19.toNatClampNeg x3_19.toNatClampNeg 9999)]) := hD
              refine lv_iinc (v := (x3_19 + 1)) (lv' := [(3, .int (x3_19 + 1)), (0, .ref (a_dw0 0 0)), (1, .ref (at_y4_19 0)), (2, .int x2_19)]) hx hb dL_distances_42 hl (k := 3) rfl rfl (by decide) rfl (fun ls hl => ?_)
              refine lv_goto (tgt := 19) hx hb dL_distances_45 (by decide) ?_
              exact ih_19 x2_19 (x3_19 + 1) V_dw0_19 at_y4_19 (zd_up f_y4_19 x2_19.toNatClampNeg x3_19.toNatClampNeg 9999) _ _ _ _ _ (by omega) (by omega) hw hP hD hS (lv_sub hl [1, 2, 3, 0] rfl)
            · have hw := hw.2 c_31
              refine lv_iconst (v := 0) hx hb dL_distances_34 (by decide) ?_
              refine lv_goto (tgt := 41) hx hb dL_distances_35 (by decide) ?_
              have h22 := hw.1
              have hw := hw.2
              refine va_iast hx hb hE.1 hP hD hS _ 0 (kDd_get (va_lt8 h20)) rfl h22 dL_distances_41 (fun H locs hP hD hS => ?_)
              rw [kDd_set (va_lt8 h20)] at hP hD
              have hP : va_P g.1 vwCl (List.flatten [kDW g a_dw0 ra_dw0 V_dw0_19, kDd g at_y4_19 (zd_up f_y4_19 x2_19.toNatClampNeg x3_19.toNatClampNeg 0)]) H := hP
              have hD : va_D A (List.flatten [kDW g a_dw0 ra_dw0 V_dw0_19, kDd g at_y4_19 (zd_up f_y4_19 x2_19.toNatClampNeg x3_19.toNatClampNeg 0)]) := hD
              refine lv_iinc (v := (x3_19 + 1)) (lv' := [(3, .int (x3_19 + 1)), (0, .ref (a_dw0 0 0)), (1, .ref (at_y4_19 0)), (2, .int x2_19)]) hx hb dL_distances_42 hl (k := 3) rfl rfl (by decide) rfl (fun ls hl => ?_)
              refine lv_goto (tgt := 19) hx hb dL_distances_45 (by decide) ?_
              exact ih_19 x2_19 (x3_19 + 1) V_dw0_19 at_y4_19 (zd_up f_y4_19 x2_19.toNatClampNeg x3_19.toNatClampNeg 0) _ _ _ _ _ (by omega) (by omega) hw hP hD hS (lv_sub hl [1, 2, 3, 0] rfl)
      refine lv_iload_n hx hb dL_distances_11 rfl (lv_at hl 2 rfl) ?_
      refine lv_bipush (v := 8) hx hb dL_distances_12 (by decide) ?_
      refine lv_icmp_ge (tgt := 54) hx hb dL_distances_14 (by decide) (fun c_14 => ?_) (fun c_14 => ?_)
      · have hw := hw.1 c_14
        refine lv_iconst (v := 0) hx hb dL_distances_54 (by decide) ?_
        refine lv_istore_n (lv' := [(2, .int 0), (0, .ref (a_dw0 0 0)), (1, .ref (at_y4_11 0))]) hx hb dL_distances_55 rfl hl (by decide) rfl (fun ls hl => ?_)
        obtain ⟨n, hn, hw⟩ := hw
        have hbc := zbud_le (a := 6) hn
        have hbs := zbud_le (a := 36) hn
        have hbc : zbud 6 n ≤ 78 := hbc
        have hbs : zbud 36 n ≤ 468 := hbs
        exact L56 n 0 V_dw0_11 at_y4_11 f_y4_11 _ _ _ _ _ (by omega) (by omega) hw hP hD hS (lv_sub hl [1, 2, 0] rfl)
      · have hw := hw.2 c_14
        refine lv_iconst (v := 0) hx hb dL_distances_17 (by decide) ?_
        refine lv_istore_n (lv' := [(3, .int 0), (0, .ref (a_dw0 0 0)), (1, .ref (at_y4_11 0)), (2, .int x2_11)]) hx hb dL_distances_18 rfl hl (by decide) rfl (fun ls hl => ?_)
        obtain ⟨n, hn, hw⟩ := hw
        have hbc := zbud_le (a := 0) hn
        have hbs := zbud_le (a := 0) hn
        have hbc : zbud 0 n ≤ 0 := hbc
        have hbs : zbud 0 n ≤ 0 := hbs
        exact L19 n x2_11 0 V_dw0_11 at_y4_11 f_y4_11 _ _ _ _ _ (by omega) (by omega) hw hP hD hS (lv_sub hl [1, 2, 3, 0] rfl)
  refine lv_bipush (v := 8) hx hb dL_distances_0 (by decide) ?_
  refine lv_bipush (v := 8) hx hb dL_distances_2 (by decide) ?_
  refine zz_grid (own := RL) hx hb hown (hts _ (lwM tw715)) hN.2.1 (hts _ (lwM tw619)) hE hP hD hS hA (by show _ ≤ 87; omega) (by show _ ≤ 540; omega) dL_distances_4 (fun at_y4 H hP hD hS => ?_)
  have hP : va_P g.1 vwCl (List.flatten [kDW g a_dw0 ra_dw0 V_dw0, kDd g at_y4 (fun _ _ => 0)]) H := hP
  have hD : va_D A (List.flatten [kDW g a_dw0 ra_dw0 V_dw0, kDd g at_y4 (fun _ _ => 0)]) := hD
  have hw := hw at_y4
  refine lv_astore_n (lv' := [(1, .ref (at_y4 0)), (0, .ref (a_dw0 0 0))]) hx hb dL_distances_8 rfl hl (by decide) rfl (fun ls hl => ?_)
  refine lv_iconst (v := 0) hx hb dL_distances_9 (by decide) ?_
  refine lv_istore_n (lv' := [(2, .int 0), (1, .ref (at_y4 0)), (0, .ref (a_dw0 0 0))]) hx hb dL_distances_10 rfl hl (by decide) rfl (fun ls hl => ?_)
  obtain ⟨n, hn, hw⟩ := hw
  have hbc := zbud_le (a := 0) hn
  have hbs := zbud_le (a := 0) hn
  have hbc : zbud 0 n ≤ 0 := hbc
  have hbs : zbud 0 n ≤ 0 := hbs
  exact L11 n 0 V_dw0 at_y4 (fun _ _ => 0) _ _ _ _ _ (by omega) (by omega) hw hP hD hS (lv_sub hl [2, 1, 0] rfl)
