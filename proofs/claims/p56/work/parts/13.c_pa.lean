/-! contracts: by program (wip/whole/gen) -/
abbrev rmX1_nearestOpen : Room := { frames := 1, cells := 0, slots := 0, locals := 100 }
set_option maxRecDepth 20000 in
theorem inX1_nearestOpen_X1 : ∀ w ∈ wsX10, w ∈ wsX1_nearestOpen := by decide +kernel
set_option maxHeartbeats 4000000 in
set_option maxRecDepth 100000 in
theorem ctX1_nearestOpen (l : Launch) (g : GG) (a_pa : Nat → Nat) (sz : Nat) (w_reach : Nat → Int32) (w_settled : Nat → Int32) (w_table : Nat → Int32) {post : Int32 → Prop} (hw : wpX1_nearestOpen w_reach w_settled post) :
    Met l yX1_nearestOpen wsX1_nearestOpen rmX1_nearestOpen (gPc g sz (List.flatten [kPa g a_pa w_reach w_settled w_table]) [.ref (a_pa 0)]) (gQi0 post (gB g (List.flatten [kPa g a_pa w_reach w_settled w_table]) sz (List.flatten [kPa g a_pa w_reach w_settled w_table])) (va_A (List.flatten [kPa g a_pa w_reach w_settled w_table]) sz)) 0 0 (va_A (List.flatten [kPa g a_pa w_reach w_settled w_table]) sz) := by
  refine gOf (cc := cX1_nearestOpen) (maxL := 4) (ret := (some .int)) (by decide) rfl (Nat.le_of_ble_eq_true rfl) ?_
  intro p e s m below meth c ls Q A hQ hx hb hr hml hts hown hlocks hE hA0 hsz hP hD hA hS hl
  have hl : lv_has ls 4 [(0, .ref (a_pa 0))] := hl
  have L7 : ∀ (n : Nat) (x1_7 : Int32) (x2_7 : Int32) (x3_7 : Int32) (H : Heap) (locs : List Loc) (ls : Array Slot), wpX1_nearestOpen_L7 w_reach w_settled post n x1_7 x2_7 x3_7 → va_P g.1 vwCl (List.flatten [kPa g a_pa w_reach w_settled w_table]) H → va_D A (List.flatten [kPa g a_pa w_reach w_settled w_table]) → va_S A s.heap H locs → lv_has ls 4 [(0, .ref (a_pa 0)), (1, .int x1_7), (2, .int x2_7), (3, .int x3_7)] → W p l e rmX1_nearestOpen s m (([.ref (a_pa 0)] : List Value).toArray) below meth c H locs 0 0 Q (F0 m 7 ls []) := by
    intro n_7
    induction n_7 with
    | zero => intro x1_7 x2_7 x3_7 H locs ls hw; exact False.elim hw
    | succ n_7 ih_7 =>
      intro x1_7 x2_7 x3_7 H locs ls hw hP hD hS hl
      refine lv_iload_n hx hb dX1_nearestOpen_7 rfl (lv_at hl 3 rfl) ?_
      refine lv_bipush (v := 8) hx hb dX1_nearestOpen_8 (by decide) ?_
      refine lv_icmp_ge (tgt := 47) hx hb dX1_nearestOpen_10 (by decide) (fun c_10 => ?_) (fun c_10 => ?_)
      · have hw := hw.1 c_10
        refine lv_iload_n hx hb dX1_nearestOpen_47 rfl (lv_at hl 1 rfl) ?_
        subst hQ
        exact W.iret hx hb hr (gRi0 (wf := _) hA0 hsz hw hP hD hS) hS.2.2 dX1_nearestOpen_48
      · have hw := hw.2 c_10
        refine lv_aload_n hx hb dX1_nearestOpen_13 rfl (lv_at hl 0 rfl) ?_
        refine va_get (D := g.1) (ci := 5) (v := .ref (a_pa 2)) (C := RX1) (T := TX1) (N := 3) hx hb hts inX1_nearestOpen_X1 hown hE.1 hP 0 rfl rfl 1 (by decide) (gW hts 2 (.fieldLink RX1 15 "SnowDispatcher$Paths" "settled" "[Z") rfl) (fun _ h9 => h9) rfl dX1_nearestOpen_14 ?_
        refine lv_iload_n hx hb dX1_nearestOpen_17 rfl (lv_at hl 3 rfl) ?_
        have h1 := hw.1
        have hw := hw.2
        refine va_zald hx hb hE.1 hP 2 2 rfl rfl h1 dX1_nearestOpen_18 ?_
        refine lv_if_ne (tgt := 41) hx hb dX1_nearestOpen_19 (by decide) (fun c_19 => ?_) (fun c_19 => ?_)
        · have hw := hw.1 c_19
          refine lv_iinc (v := (x3_7 + 1)) (lv' := [(3, .int (x3_7 + 1)), (0, .ref (a_pa 0)), (1, .int x1_7), (2, .int x2_7)]) hx hb dX1_nearestOpen_41 hl (k := 3) rfl rfl (by decide) rfl (fun ls hl => ?_)
          refine lv_goto (tgt := 7) hx hb dX1_nearestOpen_44 (by decide) ?_
          exact ih_7 x1_7 x2_7 (x3_7 + 1) _ _ _ hw hP hD hS (lv_sub hl [1, 2, 3, 0] rfl)
        · have hw := hw.2 c_19
          refine lv_aload_n hx hb dX1_nearestOpen_22 rfl (lv_at hl 0 rfl) ?_
          refine va_get (D := g.1) (ci := 5) (v := .ref (a_pa 1)) (C := RX1) (T := TX1) (N := 3) hx hb hts inX1_nearestOpen_X1 hown hE.1 hP 0 rfl rfl 0 (by decide) (gW hts 3 (.fieldLink RX1 9 "SnowDispatcher$Paths" "reach" "[I") rfl) (fun _ h9 => h9) rfl dX1_nearestOpen_23 ?_
          refine lv_iload_n hx hb dX1_nearestOpen_26 rfl (lv_at hl 3 rfl) ?_
          have h2 := hw.1
          have hw := hw.2
          refine va_iald hx hb hE.1 hP 1 0 rfl rfl h2 dX1_nearestOpen_27 ?_
          refine lv_iload_n hx hb dX1_nearestOpen_28 rfl (lv_at hl 2 rfl) ?_
          refine lv_icmp_ge (tgt := 41) hx hb dX1_nearestOpen_29 (by decide) (fun c_29 => ?_) (fun c_29 => ?_)
          · have hw := hw.1 c_29
            refine lv_iinc (v := (x3_7 + 1)) (lv' := [(3, .int (x3_7 + 1)), (0, .ref (a_pa 0)), (1, .int x1_7), (2, .int x2_7)]) hx hb dX1_nearestOpen_41 hl (k := 3) rfl rfl (by decide) rfl (fun ls hl => ?_)
            refine lv_goto (tgt := 7) hx hb dX1_nearestOpen_44 (by decide) ?_
            exact ih_7 x1_7 x2_7 (x3_7 + 1) _ _ _ hw hP hD hS (lv_sub hl [1, 2, 3, 0] rfl)
          · have hw := hw.2 c_29
            refine lv_iload_n hx hb dX1_nearestOpen_32 rfl (lv_at hl 3 rfl) ?_
            refine lv_istore_n (lv' := [(1, .int x3_7), (0, .ref (a_pa 0)), (2, .int x2_7), (3, .int x3_7)]) hx hb dX1_nearestOpen_33 rfl hl (by decide) rfl (fun ls hl => ?_)
            refine lv_aload_n hx hb dX1_nearestOpen_34 rfl (lv_at hl 1 rfl) ?_
            refine va_get (D := g.1) (ci := 5) (v := .ref (a_pa 1)) (C := RX1) (T := TX1) (N := 3) hx hb hts inX1_nearestOpen_X1 hown hE.1 hP 0 rfl rfl 0 (by decide) (gW hts 3 (.fieldLink RX1 9 "SnowDispatcher$Paths" "reach" "[I") rfl) (fun _ h9 => h9) rfl dX1_nearestOpen_35 ?_
            refine lv_iload_n hx hb dX1_nearestOpen_38 rfl (lv_at hl 3 rfl) ?_
            have h3 := hw.1
            have hw := hw.2
            refine va_iald hx hb hE.1 hP 1 0 rfl rfl h3 dX1_nearestOpen_39 ?_
            refine lv_istore_n (lv' := [(2, .int (w_reach x3_7.toNatClampNeg)), (1, .int x3_7), (0, .ref (a_pa 0)), (3, .int x3_7)]) hx hb dX1_nearestOpen_40 rfl hl (by decide) rfl (fun ls hl => ?_)
            refine lv_iinc (v := (x3_7 + 1)) (lv' := [(3, .int (x3_7 + 1)), (2, .int (w_reach x3_7.toNatClampNeg)), (1, .int x3_7), (0, .ref (a_pa 0))]) hx hb dX1_nearestOpen_41 hl (k := 3) rfl rfl (by decide) rfl (fun ls hl => ?_)
            refine lv_goto (tgt := 7) hx hb dX1_nearestOpen_44 (by decide) ?_
            exact ih_7 x3_7 (w_reach x3_7.toNatClampNeg) (x3_7 + 1) _ _ _ hw hP hD hS (lv_sub hl [3, 2, 1, 0] rfl)
  refine lv_iconst (v := (-1)) hx hb dX1_nearestOpen_0 (by decide) ?_
  refine lv_istore_n (lv' := [(1, .int (-1)), (0, .ref (a_pa 0))]) hx hb dX1_nearestOpen_1 rfl hl (by decide) rfl (fun ls hl => ?_)
  refine lv_ldc (v := 1000000) hx hb hown (gW hts 1 (.constant RX1 22 (1000000)) rfl) dX1_nearestOpen_2 ?_
  refine lv_istore_n (lv' := [(2, .int 1000000), (1, .int (-1)), (0, .ref (a_pa 0))]) hx hb dX1_nearestOpen_4 rfl hl (by decide) rfl (fun ls hl => ?_)
  refine lv_iconst (v := 0) hx hb dX1_nearestOpen_5 (by decide) ?_
  refine lv_istore_n (lv' := [(3, .int 0), (2, .int 1000000), (1, .int (-1)), (0, .ref (a_pa 0))]) hx hb dX1_nearestOpen_6 rfl hl (by decide) rfl (fun ls hl => ?_)
  obtain ⟨n, hw⟩ := hw
  exact L7 n (-1) 1000000 0 _ _ _ hw hP hD hS (lv_sub hl [3, 2, 1, 0] rfl)
abbrev rmX1_measureFrom : Room := { frames := 2, cells := 0, slots := 0, locals := 124 }
set_option maxRecDepth 20000 in
theorem inX1_measureFrom_X1 : ∀ w ∈ wsX10, w ∈ wsX1_measureFrom := by decide +kernel
set_option maxRecDepth 20000 in
theorem inX1_measureFrom_X4 : ∀ w ∈ wsX40, w ∈ wsX1_measureFrom := by decide +kernel
set_option maxHeartbeats 4000000 in
set_option maxRecDepth 100000 in
theorem ctX1_measureFrom (l : Launch) (g : GG) (a_pa : Nat → Nat) (a_st : Nat → Nat) (sz : Nat) (w_reach : Nat → Int32) (w_settled : Nat → Int32) (w_table : Nat → Int32) (s_lower : Nat → Int32) (s_higher : Nat → Int32) (s_kind : Nat → Int32) (s_size : Nat → Int32) (s_snow : Nat → Int32) (s_saltEnd : Nat → Int32) (s_complained : Nat → Int32) (s_clearings : Nat → Int32) (s_count : Int32) (x1 : Int32) {post : (Nat → Int32) → (Nat → Int32) → Prop} (hw : wpX1_measureFrom x1 w_reach w_settled s_lower s_higher s_size s_count post) :
    Met l yX1_measureFrom wsX1_measureFrom rmX1_measureFrom (gPc g sz (List.flatten [kPa g a_pa w_reach w_settled w_table, kSt g a_st s_lower s_higher s_kind s_size s_snow s_saltEnd s_complained s_clearings s_count]) [.ref (a_pa 0), .int x1, .ref (a_st 0)]) (gQv2 post (fun u1 u2 => gB g (List.flatten [kPa g a_pa w_reach w_settled w_table, kSt g a_st s_lower s_higher s_kind s_size s_snow s_saltEnd s_complained s_clearings s_count]) sz (List.flatten [kPa g a_pa u1 u2 w_table, kSt g a_st s_lower s_higher s_kind s_size s_snow s_saltEnd s_complained s_clearings s_count])) (va_A (List.flatten [kPa g a_pa w_reach w_settled w_table, kSt g a_st s_lower s_higher s_kind s_size s_snow s_saltEnd s_complained s_clearings s_count]) sz)) 0 0 (va_A (List.flatten [kPa g a_pa w_reach w_settled w_table, kSt g a_st s_lower s_higher s_kind s_size s_snow s_saltEnd s_complained s_clearings s_count]) sz) := by
  refine gOf (cc := cX1_measureFrom) (maxL := 7) (ret := none) (by decide) rfl (Nat.le_of_ble_eq_true rfl) ?_
  intro p e s m below meth c ls Q A hQ hx hb hr hml hts hown hlocks hE hA0 hsz hP hD hA hS hl
  have hl : lv_has ls 7 [(0, .ref (a_pa 0)), (1, .int x1), (2, .ref (a_st 0))] := hl
  have L40 : ∀ (n : Nat) (x3_40 : Int32) (w_reach_40 : Nat → Int32) (w_settled_40 : Nat → Int32) (H : Heap) (locs : List Loc) (ls : Array Slot), wpX1_measureFrom_L40 s_lower s_higher s_size s_count post n x3_40 w_reach_40 w_settled_40 → va_P g.1 vwCl (List.flatten [kPa g a_pa w_reach_40 w_settled_40 w_table, kSt g a_st s_lower s_higher s_kind s_size s_snow s_saltEnd s_complained s_clearings s_count]) H → va_D A (List.flatten [kPa g a_pa w_reach_40 w_settled_40 w_table, kSt g a_st s_lower s_higher s_kind s_size s_snow s_saltEnd s_complained s_clearings s_count]) → va_S A s.heap H locs → lv_has ls 7 [(0, .ref (a_pa 0)), (2, .ref (a_st 0)), (3, .int x3_40)] → W p l e rmX1_measureFrom s m (([.ref (a_pa 0), .int x1, .ref (a_st 0)] : List Value).toArray) below meth c H locs 0 0 Q (F0 m 40 ls []) := by
    intro n_40
    induction n_40 with
    | zero => intro x3_40 w_reach_40 w_settled_40 H locs ls hw; exact False.elim hw
    | succ n_40 ih_40 =>
      intro x3_40 w_reach_40 w_settled_40 H locs ls hw hP hD hS hl
      have L72 : ∀ (n : Nat) (x3_72 : Int32) (x4_72 : Int32) (w_settled_72 : Nat → Int32) (x5_72 : Int32) (w_reach_72 : Nat → Int32) (H : Heap) (locs : List Loc) (ls : Array Slot), wpX1_measureFrom_L72 s_lower s_higher s_size s_count x3_72 x4_72 w_settled_72 (wpX1_measureFrom_L40 s_lower s_higher s_size s_count post n_40) post n x5_72 w_reach_72 → va_P g.1 vwCl (List.flatten [kPa g a_pa w_reach_72 w_settled_72 w_table, kSt g a_st s_lower s_higher s_kind s_size s_snow s_saltEnd s_complained s_clearings s_count]) H → va_D A (List.flatten [kPa g a_pa w_reach_72 w_settled_72 w_table, kSt g a_st s_lower s_higher s_kind s_size s_snow s_saltEnd s_complained s_clearings s_count]) → va_S A s.heap H locs → lv_has ls 7 [(0, .ref (a_pa 0)), (2, .ref (a_st 0)), (3, .int x3_72), (4, .int x4_72), (5, .int x5_72)] → W p l e rmX1_measureFrom s m (([.ref (a_pa 0), .int x1, .ref (a_st 0)] : List Value).toArray) below meth c H locs 0 0 Q (F0 m 72 ls []) := by
        intro n_72
        induction n_72 with
        | zero => intro x3_72 x4_72 w_settled_72 x5_72 w_reach_72 H locs ls hw; exact False.elim hw
        | succ n_72 ih_72 =>
          intro x3_72 x4_72 w_settled_72 x5_72 w_reach_72 H locs ls hw hP hD hS hl
          refine lv_iload hx hb dX1_measureFrom_72 (lv_at hl 4 rfl) ?_
          refine lv_aload_n hx hb dX1_measureFrom_74 rfl (lv_at hl 1 rfl) ?_
          refine va_get (D := g.1) (ci := 8) (v := .int s_count) (C := RX4) (T := TX4) (N := 9) hx hb hts inX1_measureFrom_X4 hown hE.1 hP 4 rfl rfl 8 (by decide) (gW hts 4 (.fieldLink RX1 31 "SnowDispatcher$Streets" "count" "I") rfl) (fun _ h9 => h9) rfl dX1_measureFrom_75 ?_
          refine lv_icmp_ge (tgt := 144) hx hb dX1_measureFrom_78 (by decide) (fun c_78 => ?_) (fun c_78 => ?_)
          · have hw := hw.1 c_78
            refine lv_iinc (v := (x3_72 + 1)) (lv' := [(3, .int (x3_72 + 1)), (0, .ref (a_pa 0)), (2, .ref (a_st 0)), (4, .int x4_72), (5, .int x5_72)]) hx hb dX1_measureFrom_144 hl (k := 2) rfl rfl (by decide) rfl (fun ls hl => ?_)
            refine lv_goto (tgt := 40) hx hb dX1_measureFrom_147 (by decide) ?_
            exact ih_40 (x3_72 + 1) w_reach_72 w_settled_72 _ _ _ hw hP hD hS (lv_sub hl [1, 2, 0] rfl)
          · have hw := hw.2 c_78
            refine lv_iload hx hb dX1_measureFrom_81 (lv_at hl 4 rfl) ?_
            refine lv_bipush (v := 12) hx hb dX1_measureFrom_83 (by decide) ?_
            refine lv_icmp_ge (tgt := 144) hx hb dX1_measureFrom_85 (by decide) (fun c_85 => ?_) (fun c_85 => ?_)
            · have hw := hw.1 c_85
              refine lv_iinc (v := (x3_72 + 1)) (lv' := [(3, .int (x3_72 + 1)), (0, .ref (a_pa 0)), (2, .ref (a_st 0)), (4, .int x4_72), (5, .int x5_72)]) hx hb dX1_measureFrom_144 hl (k := 2) rfl rfl (by decide) rfl (fun ls hl => ?_)
              refine lv_goto (tgt := 40) hx hb dX1_measureFrom_147 (by decide) ?_
              exact ih_40 (x3_72 + 1) w_reach_72 w_settled_72 _ _ _ hw hP hD hS (lv_sub hl [1, 2, 0] rfl)
            · have hw := hw.2 c_85
              refine lv_aload_n hx hb dX1_measureFrom_88 rfl (lv_at hl 1 rfl) ?_
              refine lv_iload hx hb dX1_measureFrom_89 (lv_at hl 4 rfl) ?_
              refine lv_iload hx hb dX1_measureFrom_91 (lv_at hl 3 rfl) ?_
              refine gCi0 (gRunV (As := [.int x5_72, .int x4_72]) (rest := []) ⟨hx, hb, hml, hown, hts⟩ (ctX4_otherEnd l g a_st _ s_lower s_higher s_kind s_size s_snow s_saltEnd s_complained s_clearings s_count x5_72 x4_72 hw) (cwV 2 hts gX1_measureFrom_X4_otherEnd rfl rfl rfl (by decide +kernel) ⟨Nat.le_of_ble_eq_true rfl, Nat.le_of_ble_eq_true rfl⟩) hE (gSub hP [1]) (gDSub hD [1] rfl) 0 8 rfl rfl rfl rfl rfl hl.1 rfl (lv_room (Nat.le_of_ble_eq_true rfl)) dX1_measureFrom_93 ⟨Nat.le_of_ble_eq_true rfl, Nat.le_of_ble_eq_true rfl⟩) hP hD hS hA [1] rfl rfl rfl (fun r4 H locs hw hP hD hS => ?_)
              have hP : va_P g.1 vwCl (List.flatten [kPa g a_pa w_reach_72 w_settled_72 w_table, kSt g a_st s_lower s_higher s_kind s_size s_snow s_saltEnd s_complained s_clearings s_count]) H := hP
              have hD : va_D A (List.flatten [kPa g a_pa w_reach_72 w_settled_72 w_table, kSt g a_st s_lower s_higher s_kind s_size s_snow s_saltEnd s_complained s_clearings s_count]) := hD
              refine lv_istore (lv' := [(6, .int r4), (0, .ref (a_pa 0)), (2, .ref (a_st 0)), (3, .int x3_72), (4, .int x4_72), (5, .int x5_72)]) hx hb dX1_measureFrom_96 hl (by decide) rfl (fun ls hl => ?_)
              refine lv_iload hx hb dX1_measureFrom_98 (lv_at hl 0 rfl) ?_
              refine gCi0 (gRunSN (As := [.int r4]) (rest := []) ⟨hx, hb, hml, hown, hts⟩ (ctX6_isJunction l g _ r4 hw) ⟨va_cnB 1 hts gX1_measureFrom_X6_isJunction_n27 rfl rfl rfl hE.2.1 (gW hts 16 (.initialized RX6) rfl) (by decide +kernel) ⟨Nat.le_of_ble_eq_true rfl, Nat.le_of_ble_eq_true rfl⟩, gW hts 15 (.static yX6_isJunction) rfl, trivial⟩ hE (gSub hP []) (gDSub hD [] rfl) rfl rfl hl.1 rfl (lv_room (Nat.le_of_ble_eq_true rfl)) dX1_measureFrom_100 ⟨Nat.le_of_ble_eq_true rfl, Nat.le_of_ble_eq_true rfl⟩) hP hD hS hA [] rfl rfl rfl (fun r5 H locs hw hP hD hS => ?_)
              have hP : va_P g.1 vwCl (List.flatten [kPa g a_pa w_reach_72 w_settled_72 w_table, kSt g a_st s_lower s_higher s_kind s_size s_snow s_saltEnd s_complained s_clearings s_count]) H := hP
              have hD : va_D A (List.flatten [kPa g a_pa w_reach_72 w_settled_72 w_table, kSt g a_st s_lower s_higher s_kind s_size s_snow s_saltEnd s_complained s_clearings s_count]) := hD
              refine lv_if_eq (tgt := 138) hx hb dX1_measureFrom_103 (by decide) (fun c_103 => ?_) (fun c_103 => ?_)
              · have hw := hw.1 c_103
                refine lv_iinc (v := (x5_72 + 1)) (lv' := [(5, .int (x5_72 + 1)), (6, .int r4), (0, .ref (a_pa 0)), (2, .ref (a_st 0)), (3, .int x3_72), (4, .int x4_72)]) hx hb dX1_measureFrom_138 hl (k := 5) rfl rfl (by decide) rfl (fun ls hl => ?_)
                refine lv_goto (tgt := 72) hx hb dX1_measureFrom_141 (by decide) ?_
                exact ih_72 x3_72 x4_72 w_settled_72 (x5_72 + 1) w_reach_72 _ _ _ hw hP hD hS (lv_sub hl [2, 3, 4, 5, 0] rfl)
              · have hw := hw.2 c_103
                refine lv_aload_n hx hb dX1_measureFrom_106 rfl (lv_at hl 1 rfl) ?_
                refine va_get (D := g.1) (ci := 5) (v := .ref (a_pa 1)) (C := RX1) (T := TX1) (N := 3) hx hb hts inX1_measureFrom_X1 hown hE.1 hP 0 rfl rfl 0 (by decide) (gW hts 1 (.fieldLink RX1 9 "SnowDispatcher$Paths" "reach" "[I") rfl) (fun _ h9 => h9) rfl dX1_measureFrom_107 ?_
                refine lv_iload hx hb dX1_measureFrom_110 (lv_at hl 0 rfl) ?_
                refine lv_aload_n hx hb dX1_measureFrom_112 rfl (lv_at hl 1 rfl) ?_
                refine va_get (D := g.1) (ci := 5) (v := .ref (a_pa 1)) (C := RX1) (T := TX1) (N := 3) hx hb hts inX1_measureFrom_X1 hown hE.1 hP 0 rfl rfl 0 (by decide) (gW hts 1 (.fieldLink RX1 9 "SnowDispatcher$Paths" "reach" "[I") rfl) (fun _ h9 => h9) rfl dX1_measureFrom_113 ?_
                refine lv_iload hx hb dX1_measureFrom_116 (lv_at hl 0 rfl) ?_
                have h6 := hw.1
                have hw := hw.2
                refine va_iald hx hb hE.1 hP 1 0 rfl rfl h6 dX1_measureFrom_118 ?_
                refine lv_aload_n hx hb dX1_measureFrom_119 rfl (lv_at hl 1 rfl) ?_
                refine va_get (D := g.1) (ci := 5) (v := .ref (a_pa 1)) (C := RX1) (T := TX1) (N := 3) hx hb hts inX1_measureFrom_X1 hown hE.1 hP 0 rfl rfl 0 (by decide) (gW hts 1 (.fieldLink RX1 9 "SnowDispatcher$Paths" "reach" "[I") rfl) (fun _ h9 => h9) rfl dX1_measureFrom_120 ?_
                refine lv_iload hx hb dX1_measureFrom_123 (lv_at hl 4 rfl) ?_
                have h7 := hw.1
                have hw := hw.2
                refine va_iald hx hb hE.1 hP 1 0 rfl rfl h7 dX1_measureFrom_125 ?_
                refine lv_aload_n hx hb dX1_measureFrom_126 rfl (lv_at hl 2 rfl) ?_
                refine va_get (D := g.1) (ci := 8) (v := .ref (a_st 4)) (C := RX4) (T := TX4) (N := 9) hx hb hts inX1_measureFrom_X4 hown hE.1 hP 4 rfl rfl 3 (by decide) (gW hts 5 (.fieldLink RX1 41 "SnowDispatcher$Streets" "size" "[I") rfl) (fun _ h9 => h9) rfl dX1_measureFrom_127 ?_
                refine lv_iload hx hb dX1_measureFrom_130 (lv_at hl 5 rfl) ?_
                have h8 := hw.1
                have hw := hw.2
                refine va_iald hx hb hE.1 hP 8 0 rfl rfl h8 dX1_measureFrom_132 ?_
                refine lv_iadd hx hb dX1_measureFrom_133 ?_
                refine va_mmin hx hb (hml.trans hl.1.symm) hown (gW hts 6 (.methodLink RX1 44 Lib.Math.min.name) rfl) (gW hts 7 (.static Lib.Math.min.name) rfl) (gW hts 8 (.initialized "java/lang/Math") rfl) (gW hts 9 (.code Lib.Math.min.name Lib.Math.min.code 2 (some .int)) rfl) (Nat.le_of_ble_eq_true rfl) (Nat.le_of_ble_eq_true rfl) (Nat.le_of_ble_eq_true rfl) (Nat.le_of_ble_eq_true rfl) dX1_measureFrom_134 ?_
                have h9 := hw.1
                have hw := hw.2
                refine va_iast hx hb hE.1 hP hD hS 1 0 rfl rfl h9 dX1_measureFrom_137 (fun H locs hP hD hS => ?_)
                have hP : va_P g.1 vwCl (List.flatten [kPa g a_pa (upd w_reach_72 r4.toNatClampNeg (if ((w_reach_72 x4_72.toNatClampNeg) + (s_size x5_72.toNatClampNeg)) < (w_reach_72 r4.toNatClampNeg) then ((w_reach_72 x4_72.toNatClampNeg) + (s_size x5_72.toNatClampNeg)) else (w_reach_72 r4.toNatClampNeg))) w_settled_72 w_table, kSt g a_st s_lower s_higher s_kind s_size s_snow s_saltEnd s_complained s_clearings s_count]) H := hP
                have hD : va_D A (List.flatten [kPa g a_pa (upd w_reach_72 r4.toNatClampNeg (if ((w_reach_72 x4_72.toNatClampNeg) + (s_size x5_72.toNatClampNeg)) < (w_reach_72 r4.toNatClampNeg) then ((w_reach_72 x4_72.toNatClampNeg) + (s_size x5_72.toNatClampNeg)) else (w_reach_72 r4.toNatClampNeg))) w_settled_72 w_table, kSt g a_st s_lower s_higher s_kind s_size s_snow s_saltEnd s_complained s_clearings s_count]) := hD
                refine lv_iinc (v := (x5_72 + 1)) (lv' := [(5, .int (x5_72 + 1)), (6, .int r4), (0, .ref (a_pa 0)), (2, .ref (a_st 0)), (3, .int x3_72), (4, .int x4_72)]) hx hb dX1_measureFrom_138 hl (k := 5) rfl rfl (by decide) rfl (fun ls hl => ?_)
                refine lv_goto (tgt := 72) hx hb dX1_measureFrom_141 (by decide) ?_
                exact ih_72 x3_72 x4_72 w_settled_72 (x5_72 + 1) (upd w_reach_72 r4.toNatClampNeg (if ((w_reach_72 x4_72.toNatClampNeg) + (s_size x5_72.toNatClampNeg)) < (w_reach_72 r4.toNatClampNeg) then ((w_reach_72 x4_72.toNatClampNeg) + (s_size x5_72.toNatClampNeg)) else (w_reach_72 r4.toNatClampNeg))) _ _ _ hw hP hD hS (lv_sub hl [2, 3, 4, 5, 0] rfl)
      refine lv_iload_n hx hb dX1_measureFrom_40 rfl (lv_at hl 2 rfl) ?_
      refine lv_bipush (v := 8) hx hb dX1_measureFrom_41 (by decide) ?_
      refine lv_icmp_ge (tgt := 150) hx hb dX1_measureFrom_43 (by decide) (fun c_43 => ?_) (fun c_43 => ?_)
      · have hw := hw.1 c_43
        subst hQ
        exact W.vret hx hb hr (gRv2 (c1 := w_reach_40) (c2 := w_settled_40) (wf := _) hA0 hsz hw hP hD hS) hS.2.2 dX1_measureFrom_150
      · have hw := hw.2 c_43
        refine lv_aload_n hx hb dX1_measureFrom_46 rfl (lv_at hl 0 rfl) ?_
        refine gCi0 (gRunV (As := []) (rest := []) ⟨hx, hb, hml, hown, hts⟩ (ctX1_nearestOpen l g a_pa _ w_reach_40 w_settled_40 w_table hw) (cwV 0 hts gX1_measureFrom_X1_nearestOpen rfl rfl rfl (by decide +kernel) ⟨Nat.le_of_ble_eq_true rfl, Nat.le_of_ble_eq_true rfl⟩) hE (gSub hP [0]) (gDSub hD [0] rfl) 0 5 rfl rfl rfl rfl rfl hl.1 rfl (lv_room (Nat.le_of_ble_eq_true rfl)) dX1_measureFrom_47 ⟨Nat.le_of_ble_eq_true rfl, Nat.le_of_ble_eq_true rfl⟩) hP hD hS hA [0] rfl rfl rfl (fun r1 H locs hw hP hD hS => ?_)
        have hP : va_P g.1 vwCl (List.flatten [kPa g a_pa w_reach_40 w_settled_40 w_table, kSt g a_st s_lower s_higher s_kind s_size s_snow s_saltEnd s_complained s_clearings s_count]) H := hP
        have hD : va_D A (List.flatten [kPa g a_pa w_reach_40 w_settled_40 w_table, kSt g a_st s_lower s_higher s_kind s_size s_snow s_saltEnd s_complained s_clearings s_count]) := hD
        refine lv_istore (lv' := [(4, .int r1), (0, .ref (a_pa 0)), (2, .ref (a_st 0)), (3, .int x3_40)]) hx hb dX1_measureFrom_50 hl (by decide) rfl (fun ls hl => ?_)
        refine lv_iload hx hb dX1_measureFrom_52 (lv_at hl 0 rfl) ?_
        refine gCi0 (gRunSN (As := [.int r1]) (rest := []) ⟨hx, hb, hml, hown, hts⟩ (ctX6_isJunction l g _ r1 hw) ⟨va_cnB 1 hts gX1_measureFrom_X6_isJunction_n27 rfl rfl rfl hE.2.1 (gW hts 16 (.initialized RX6) rfl) (by decide +kernel) ⟨Nat.le_of_ble_eq_true rfl, Nat.le_of_ble_eq_true rfl⟩, gW hts 15 (.static yX6_isJunction) rfl, trivial⟩ hE (gSub hP []) (gDSub hD [] rfl) rfl rfl hl.1 rfl (lv_room (Nat.le_of_ble_eq_true rfl)) dX1_measureFrom_54 ⟨Nat.le_of_ble_eq_true rfl, Nat.le_of_ble_eq_true rfl⟩) hP hD hS hA [] rfl rfl rfl (fun r2 H locs hw hP hD hS => ?_)
        have hP : va_P g.1 vwCl (List.flatten [kPa g a_pa w_reach_40 w_settled_40 w_table, kSt g a_st s_lower s_higher s_kind s_size s_snow s_saltEnd s_complained s_clearings s_count]) H := hP
        have hD : va_D A (List.flatten [kPa g a_pa w_reach_40 w_settled_40 w_table, kSt g a_st s_lower s_higher s_kind s_size s_snow s_saltEnd s_complained s_clearings s_count]) := hD
        refine lv_if_ne (tgt := 61) hx hb dX1_measureFrom_57 (by decide) (fun c_57 => ?_) (fun c_57 => ?_)
        · have hw := hw.1 c_57
          refine lv_aload_n hx hb dX1_measureFrom_61 rfl (lv_at hl 1 rfl) ?_
          refine va_get (D := g.1) (ci := 5) (v := .ref (a_pa 2)) (C := RX1) (T := TX1) (N := 3) hx hb hts inX1_measureFrom_X1 hown hE.1 hP 0 rfl rfl 1 (by decide) (gW hts 3 (.fieldLink RX1 15 "SnowDispatcher$Paths" "settled" "[Z") rfl) (fun _ h9 => h9) rfl dX1_measureFrom_62 ?_
          refine lv_iload hx hb dX1_measureFrom_65 (lv_at hl 0 rfl) ?_
          refine lv_iconst (v := 1) hx hb dX1_measureFrom_67 (by decide) ?_
          have h3 := hw.1
          have hw := hw.2
          refine va_zast hx hb hE.1 hP hD hS 2 2 rfl rfl h3 dX1_measureFrom_68 (fun H locs hP hD hS => ?_)
          have hP : va_P g.1 vwCl (List.flatten [kPa g a_pa w_reach_40 (upd w_settled_40 r1.toNatClampNeg (vp_nar .boolean 1)) w_table, kSt g a_st s_lower s_higher s_kind s_size s_snow s_saltEnd s_complained s_clearings s_count]) H := hP
          have hD : va_D A (List.flatten [kPa g a_pa w_reach_40 (upd w_settled_40 r1.toNatClampNeg (vp_nar .boolean 1)) w_table, kSt g a_st s_lower s_higher s_kind s_size s_snow s_saltEnd s_complained s_clearings s_count]) := hD
          refine lv_iconst (v := 0) hx hb dX1_measureFrom_69 (by decide) ?_
          refine lv_istore (lv' := [(5, .int 0), (4, .int r1), (0, .ref (a_pa 0)), (2, .ref (a_st 0)), (3, .int x3_40)]) hx hb dX1_measureFrom_70 hl (by decide) rfl (fun ls hl => ?_)
          obtain ⟨n, hw⟩ := hw
          exact L72 n x3_40 r1 (upd w_settled_40 r1.toNatClampNeg (vp_nar .boolean 1)) 0 w_reach_40 _ _ _ hw hP hD hS (lv_sub hl [2, 3, 4, 1, 0] rfl)
        · have hw := hw.2 c_57
          subst hQ
          exact W.vret hx hb hr (gRv2 (c1 := w_reach_40) (c2 := w_settled_40) (wf := _) hA0 hsz hw hP hD hS) hS.2.2 dX1_measureFrom_60
  have L2 : ∀ (n : Nat) (x3_2 : Int32) (w_reach_2 : Nat → Int32) (w_settled_2 : Nat → Int32) (H : Heap) (locs : List Loc) (ls : Array Slot), wpX1_measureFrom_L2 x1 s_lower s_higher s_size s_count post n x3_2 w_reach_2 w_settled_2 → va_P g.1 vwCl (List.flatten [kPa g a_pa w_reach_2 w_settled_2 w_table, kSt g a_st s_lower s_higher s_kind s_size s_snow s_saltEnd s_complained s_clearings s_count]) H → va_D A (List.flatten [kPa g a_pa w_reach_2 w_settled_2 w_table, kSt g a_st s_lower s_higher s_kind s_size s_snow s_saltEnd s_complained s_clearings s_count]) → va_S A s.heap H locs → lv_has ls 7 [(0, .ref (a_pa 0)), (1, .int x1), (2, .ref (a_st 0)), (3, .int x3_2)] → W p l e rmX1_measureFrom s m (([.ref (a_pa 0), .int x1, .ref (a_st 0)] : List Value).toArray) below meth c H locs 0 0 Q (F0 m 2 ls []) := by
    intro n_2
    induction n_2 with
    | zero => intro x3_2 w_reach_2 w_settled_2 H locs ls hw; exact False.elim hw
    | succ n_2 ih_2 =>
      intro x3_2 w_reach_2 w_settled_2 H locs ls hw hP hD hS hl
      refine lv_iload_n hx hb dX1_measureFrom_2 rfl (lv_at hl 3 rfl) ?_
      refine lv_bipush (v := 8) hx hb dX1_measureFrom_3 (by decide) ?_
      refine lv_icmp_ge (tgt := 38) hx hb dX1_measureFrom_5 (by decide) (fun c_5 => ?_) (fun c_5 => ?_)
      · have hw := hw.1 c_5
        refine lv_iconst (v := 0) hx hb dX1_measureFrom_38 (by decide) ?_
        refine lv_istore_n (lv' := [(3, .int 0), (0, .ref (a_pa 0)), (1, .int x1), (2, .ref (a_st 0))]) hx hb dX1_measureFrom_39 rfl hl (by decide) rfl (fun ls hl => ?_)
        obtain ⟨n, hw⟩ := hw
        exact L40 n 0 w_reach_2 w_settled_2 _ _ _ hw hP hD hS (lv_sub hl [1, 3, 0] rfl)
      · have hw := hw.2 c_5
        refine lv_aload_n hx hb dX1_measureFrom_8 rfl (lv_at hl 0 rfl) ?_
        refine va_get (D := g.1) (ci := 5) (v := .ref (a_pa 1)) (C := RX1) (T := TX1) (N := 3) hx hb hts inX1_measureFrom_X1 hown hE.1 hP 0 rfl rfl 0 (by decide) (gW hts 1 (.fieldLink RX1 9 "SnowDispatcher$Paths" "reach" "[I") rfl) (fun _ h9 => h9) rfl dX1_measureFrom_9 ?_
        refine lv_iload_n hx hb dX1_measureFrom_12 rfl (lv_at hl 3 rfl) ?_
        refine lv_iload_n hx hb dX1_measureFrom_13 rfl (lv_at hl 3 rfl) ?_
        refine lv_iload_n hx hb dX1_measureFrom_14 rfl (lv_at hl 1 rfl) ?_
        refine lv_icmp_ne (tgt := 22) hx hb dX1_measureFrom_15 (by decide) (fun c_15 => ?_) (fun c_15 => ?_)
        · have hw := hw.1 c_15
          refine lv_ldc (v := 1000000) hx hb hown (gW hts 2 (.constant RX1 22 (1000000)) rfl) dX1_measureFrom_22 ?_
          have h10 := hw.1
          have hw := hw.2
          refine va_iast hx hb hE.1 hP hD hS 1 0 rfl rfl h10 dX1_measureFrom_24 (fun H locs hP hD hS => ?_)
          have hP : va_P g.1 vwCl (List.flatten [kPa g a_pa (upd w_reach_2 x3_2.toNatClampNeg 1000000) w_settled_2 w_table, kSt g a_st s_lower s_higher s_kind s_size s_snow s_saltEnd s_complained s_clearings s_count]) H := hP
          have hD : va_D A (List.flatten [kPa g a_pa (upd w_reach_2 x3_2.toNatClampNeg 1000000) w_settled_2 w_table, kSt g a_st s_lower s_higher s_kind s_size s_snow s_saltEnd s_complained s_clearings s_count]) := hD
          refine lv_aload_n hx hb dX1_measureFrom_25 rfl (lv_at hl 0 rfl) ?_
          refine va_get (D := g.1) (ci := 5) (v := .ref (a_pa 2)) (C := RX1) (T := TX1) (N := 3) hx hb hts inX1_measureFrom_X1 hown hE.1 hP 0 rfl rfl 1 (by decide) (gW hts 3 (.fieldLink RX1 15 "SnowDispatcher$Paths" "settled" "[Z") rfl) (fun _ h9 => h9) rfl dX1_measureFrom_26 ?_
          refine lv_iload_n hx hb dX1_measureFrom_29 rfl (lv_at hl 3 rfl) ?_
          refine lv_iconst (v := 0) hx hb dX1_measureFrom_30 (by decide) ?_
          have h11 := hw.1
          have hw := hw.2
          refine va_zast hx hb hE.1 hP hD hS 2 2 rfl rfl h11 dX1_measureFrom_31 (fun H locs hP hD hS => ?_)
          have hP : va_P g.1 vwCl (List.flatten [kPa g a_pa (upd w_reach_2 x3_2.toNatClampNeg 1000000) (upd w_settled_2 x3_2.toNatClampNeg (vp_nar .boolean 0)) w_table, kSt g a_st s_lower s_higher s_kind s_size s_snow s_saltEnd s_complained s_clearings s_count]) H := hP
          have hD : va_D A (List.flatten [kPa g a_pa (upd w_reach_2 x3_2.toNatClampNeg 1000000) (upd w_settled_2 x3_2.toNatClampNeg (vp_nar .boolean 0)) w_table, kSt g a_st s_lower s_higher s_kind s_size s_snow s_saltEnd s_complained s_clearings s_count]) := hD
          refine lv_iinc (v := (x3_2 + 1)) (lv' := [(3, .int (x3_2 + 1)), (0, .ref (a_pa 0)), (1, .int x1), (2, .ref (a_st 0))]) hx hb dX1_measureFrom_32 hl (k := 3) rfl rfl (by decide) rfl (fun ls hl => ?_)
          refine lv_goto (tgt := 2) hx hb dX1_measureFrom_35 (by decide) ?_
          exact ih_2 (x3_2 + 1) (upd w_reach_2 x3_2.toNatClampNeg 1000000) (upd w_settled_2 x3_2.toNatClampNeg (vp_nar .boolean 0)) _ _ _ hw hP hD hS (lv_sub hl [1, 2, 3, 0] rfl)
        · have hw := hw.2 c_15
          refine lv_iconst (v := 0) hx hb dX1_measureFrom_18 (by decide) ?_
          refine lv_goto (tgt := 24) hx hb dX1_measureFrom_19 (by decide) ?_
          have h12 := hw.1
          have hw := hw.2
          refine va_iast hx hb hE.1 hP hD hS 1 0 rfl rfl h12 dX1_measureFrom_24 (fun H locs hP hD hS => ?_)
          have hP : va_P g.1 vwCl (List.flatten [kPa g a_pa (upd w_reach_2 x3_2.toNatClampNeg 0) w_settled_2 w_table, kSt g a_st s_lower s_higher s_kind s_size s_snow s_saltEnd s_complained s_clearings s_count]) H := hP
          have hD : va_D A (List.flatten [kPa g a_pa (upd w_reach_2 x3_2.toNatClampNeg 0) w_settled_2 w_table, kSt g a_st s_lower s_higher s_kind s_size s_snow s_saltEnd s_complained s_clearings s_count]) := hD
          refine lv_aload_n hx hb dX1_measureFrom_25 rfl (lv_at hl 0 rfl) ?_
          refine va_get (D := g.1) (ci := 5) (v := .ref (a_pa 2)) (C := RX1) (T := TX1) (N := 3) hx hb hts inX1_measureFrom_X1 hown hE.1 hP 0 rfl rfl 1 (by decide) (gW hts 3 (.fieldLink RX1 15 "SnowDispatcher$Paths" "settled" "[Z") rfl) (fun _ h9 => h9) rfl dX1_measureFrom_26 ?_
          refine lv_iload_n hx hb dX1_measureFrom_29 rfl (lv_at hl 3 rfl) ?_
          refine lv_iconst (v := 0) hx hb dX1_measureFrom_30 (by decide) ?_
          have h13 := hw.1
          have hw := hw.2
          refine va_zast hx hb hE.1 hP hD hS 2 2 rfl rfl h13 dX1_measureFrom_31 (fun H locs hP hD hS => ?_)
          have hP : va_P g.1 vwCl (List.flatten [kPa g a_pa (upd w_reach_2 x3_2.toNatClampNeg 0) (upd w_settled_2 x3_2.toNatClampNeg (vp_nar .boolean 0)) w_table, kSt g a_st s_lower s_higher s_kind s_size s_snow s_saltEnd s_complained s_clearings s_count]) H := hP
          have hD : va_D A (List.flatten [kPa g a_pa (upd w_reach_2 x3_2.toNatClampNeg 0) (upd w_settled_2 x3_2.toNatClampNeg (vp_nar .boolean 0)) w_table, kSt g a_st s_lower s_higher s_kind s_size s_snow s_saltEnd s_complained s_clearings s_count]) := hD
          refine lv_iinc (v := (x3_2 + 1)) (lv' := [(3, .int (x3_2 + 1)), (0, .ref (a_pa 0)), (1, .int x1), (2, .ref (a_st 0))]) hx hb dX1_measureFrom_32 hl (k := 3) rfl rfl (by decide) rfl (fun ls hl => ?_)
          refine lv_goto (tgt := 2) hx hb dX1_measureFrom_35 (by decide) ?_
          exact ih_2 (x3_2 + 1) (upd w_reach_2 x3_2.toNatClampNeg 0) (upd w_settled_2 x3_2.toNatClampNeg (vp_nar .boolean 0)) _ _ _ hw hP hD hS (lv_sub hl [1, 2, 3, 0] rfl)
  refine lv_iconst (v := 0) hx hb dX1_measureFrom_0 (by decide) ?_
  refine lv_istore_n (lv' := [(3, .int 0), (0, .ref (a_pa 0)), (1, .int x1), (2, .ref (a_st 0))]) hx hb dX1_measureFrom_1 rfl hl (by decide) rfl (fun ls hl => ?_)
  obtain ⟨n, hw⟩ := hw
  exact L2 n 0 w_reach w_settled _ _ _ hw hP hD hS (lv_sub hl [1, 2, 3, 0] rfl)
abbrev rmX1_reachOf : Room := { frames := 2, cells := 0, slots := 0, locals := 121 }
set_option maxRecDepth 20000 in
theorem inX1_reachOf_X1 : ∀ w ∈ wsX10, w ∈ wsX1_reachOf := by decide +kernel
set_option maxHeartbeats 4000000 in
set_option maxRecDepth 100000 in
theorem ctX1_reachOf (l : Launch) (g : GG) (a_pa : Nat → Nat) (sz : Nat) (w_reach : Nat → Int32) (w_settled : Nat → Int32) (w_table : Nat → Int32) (x1 : Int32) {post : Int32 → Prop} (hw : wpX1_reachOf x1 w_reach post) :
    Met l yX1_reachOf wsX1_reachOf rmX1_reachOf (gPc g sz (List.flatten [kPa g a_pa w_reach w_settled w_table]) [.ref (a_pa 0), .int x1]) (gQi0 post (gB g (List.flatten [kPa g a_pa w_reach w_settled w_table]) sz (List.flatten [kPa g a_pa w_reach w_settled w_table])) (va_A (List.flatten [kPa g a_pa w_reach w_settled w_table]) sz)) 0 0 (va_A (List.flatten [kPa g a_pa w_reach w_settled w_table]) sz) := by
  refine gOf (cc := cX1_reachOf) (maxL := 2) (ret := (some .int)) (by decide) rfl (Nat.le_of_ble_eq_true rfl) ?_
  intro p e s m below meth c ls Q A hQ hx hb hr hml hts hown hlocks hE hA0 hsz hP hD hA hS hl
  have hl : lv_has ls 2 [(0, .ref (a_pa 0)), (1, .int x1)] := hl
  refine lv_iload_n hx hb dX1_reachOf_0 rfl (lv_at hl 1 rfl) ?_
  refine gCi0 (gRunSN (As := [.int x1]) (rest := []) ⟨hx, hb, hml, hown, hts⟩ (ctX6_isJunction l g _ x1 hw) ⟨va_cnB 1 hts gX1_reachOf_X6_isJunction_n27 rfl rfl rfl hE.2.1 (gW hts 4 (.initialized RX6) rfl) (by decide +kernel) ⟨Nat.le_of_ble_eq_true rfl, Nat.le_of_ble_eq_true rfl⟩, gW hts 3 (.static yX6_isJunction) rfl, trivial⟩ hE (gSub hP []) (gDSub hD [] rfl) rfl rfl hl.1 rfl (lv_room (Nat.le_of_ble_eq_true rfl)) dX1_reachOf_1 ⟨Nat.le_of_ble_eq_true rfl, Nat.le_of_ble_eq_true rfl⟩) hP hD hS hA [] rfl rfl rfl (fun r1 H locs hw hP hD hS => ?_)
  have hP : va_P g.1 vwCl (List.flatten [kPa g a_pa w_reach w_settled w_table]) H := hP
  have hD : va_D A (List.flatten [kPa g a_pa w_reach w_settled w_table]) := hD
  refine lv_if_eq (tgt := 16) hx hb dX1_reachOf_4 (by decide) (fun c_4 => ?_) (fun c_4 => ?_)
  · have hw := hw.1 c_4
    refine lv_ldc (v := 1000000) hx hb hown (gW hts 2 (.constant RX1 22 (1000000)) rfl) dX1_reachOf_16 ?_
    subst hQ
    exact W.iret hx hb hr (gRi0 (wf := _) hA0 hsz hw hP hD hS) hS.2.2 dX1_reachOf_18
  · have hw := hw.2 c_4
    refine lv_aload_n hx hb dX1_reachOf_7 rfl (lv_at hl 0 rfl) ?_
    refine va_get (D := g.1) (ci := 5) (v := .ref (a_pa 1)) (C := RX1) (T := TX1) (N := 3) hx hb hts inX1_reachOf_X1 hown hE.1 hP 0 rfl rfl 0 (by decide) (gW hts 1 (.fieldLink RX1 9 "SnowDispatcher$Paths" "reach" "[I") rfl) (fun _ h9 => h9) rfl dX1_reachOf_8 ?_
    refine lv_iload_n hx hb dX1_reachOf_11 rfl (lv_at hl 1 rfl) ?_
    have h2 := hw.1
    have hw := hw.2
    refine va_iald hx hb hE.1 hP 1 0 rfl rfl h2 dX1_reachOf_12 ?_
    refine lv_goto (tgt := 18) hx hb dX1_reachOf_13 (by decide) ?_
    subst hQ
    exact W.iret hx hb hr (gRi0 (wf := _) hA0 hsz hw hP hD hS) hS.2.2 dX1_reachOf_18
abbrev rmX1_link : Room := { frames := 2, cells := 0, slots := 0, locals := 121 }
set_option maxRecDepth 20000 in
theorem inX1_link_X1 : ∀ w ∈ wsX10, w ∈ wsX1_link := by decide +kernel
set_option maxHeartbeats 4000000 in
set_option maxRecDepth 100000 in
theorem ctX1_link (l : Launch) (g : GG) (a_pa : Nat → Nat) (sz : Nat) (w_reach : Nat → Int32) (w_settled : Nat → Int32) (w_table : Nat → Int32) (x1 : Int32) (x2 : Int32) (x3 : Int32) {post : (Nat → Int32) → Prop} (hw : wpX1_link x1 x2 x3 w_table post) :
    Met l yX1_link wsX1_link rmX1_link (gPc g sz (List.flatten [kPa g a_pa w_reach w_settled w_table]) [.ref (a_pa 0), .int x1, .int x2, .int x3]) (gQv1 post (fun u1 => gB g (List.flatten [kPa g a_pa w_reach w_settled w_table]) sz (List.flatten [kPa g a_pa w_reach w_settled u1])) (va_A (List.flatten [kPa g a_pa w_reach w_settled w_table]) sz)) 0 0 (va_A (List.flatten [kPa g a_pa w_reach w_settled w_table]) sz) := by
  refine gOf (cc := cX1_link) (maxL := 4) (ret := none) (by decide) rfl (Nat.le_of_ble_eq_true rfl) ?_
  intro p e s m below meth c ls Q A hQ hx hb hr hml hts hown hlocks hE hA0 hsz hP hD hA hS hl
  have hl : lv_has ls 4 [(0, .ref (a_pa 0)), (1, .int x1), (2, .int x2), (3, .int x3)] := hl
  refine lv_iload_n hx hb dX1_link_0 rfl (lv_at hl 1 rfl) ?_
  refine gCi0 (gRunSN (As := [.int x1]) (rest := []) ⟨hx, hb, hml, hown, hts⟩ (ctX6_isJunction l g _ x1 hw) ⟨va_cnB 1 hts gX1_link_X6_isJunction_n27 rfl rfl rfl hE.2.1 (gW hts 3 (.initialized RX6) rfl) (by decide +kernel) ⟨Nat.le_of_ble_eq_true rfl, Nat.le_of_ble_eq_true rfl⟩, gW hts 2 (.static yX6_isJunction) rfl, trivial⟩ hE (gSub hP []) (gDSub hD [] rfl) rfl rfl hl.1 rfl (lv_room (Nat.le_of_ble_eq_true rfl)) dX1_link_1 ⟨Nat.le_of_ble_eq_true rfl, Nat.le_of_ble_eq_true rfl⟩) hP hD hS hA [] rfl rfl rfl (fun r1 H locs hw hP hD hS => ?_)
  have hP : va_P g.1 vwCl (List.flatten [kPa g a_pa w_reach w_settled w_table]) H := hP
  have hD : va_D A (List.flatten [kPa g a_pa w_reach w_settled w_table]) := hD
  refine lv_if_eq (tgt := 38) hx hb dX1_link_4 (by decide) (fun c_4 => ?_) (fun c_4 => ?_)
  · have hw := hw.1 c_4
    subst hQ
    exact W.vret hx hb hr (gRv1 (c1 := w_table) (wf := _) hA0 hsz hw hP hD hS) hS.2.2 dX1_link_38
  · have hw := hw.2 c_4
    refine lv_iload_n hx hb dX1_link_7 rfl (lv_at hl 2 rfl) ?_
    refine gCi0 (gRunSN (As := [.int x2]) (rest := []) ⟨hx, hb, hml, hown, hts⟩ (ctX6_isJunction l g _ x2 hw) ⟨va_cnB 1 hts gX1_link_X6_isJunction_n27 rfl rfl rfl hE.2.1 (gW hts 3 (.initialized RX6) rfl) (by decide +kernel) ⟨Nat.le_of_ble_eq_true rfl, Nat.le_of_ble_eq_true rfl⟩, gW hts 2 (.static yX6_isJunction) rfl, trivial⟩ hE (gSub hP []) (gDSub hD [] rfl) rfl rfl hl.1 rfl (lv_room (Nat.le_of_ble_eq_true rfl)) dX1_link_8 ⟨Nat.le_of_ble_eq_true rfl, Nat.le_of_ble_eq_true rfl⟩) hP hD hS hA [] rfl rfl rfl (fun r2 H locs hw hP hD hS => ?_)
    have hP : va_P g.1 vwCl (List.flatten [kPa g a_pa w_reach w_settled w_table]) H := hP
    have hD : va_D A (List.flatten [kPa g a_pa w_reach w_settled w_table]) := hD
    refine lv_if_eq (tgt := 38) hx hb dX1_link_11 (by decide) (fun c_11 => ?_) (fun c_11 => ?_)
    · have hw := hw.1 c_11
      subst hQ
      exact W.vret hx hb hr (gRv1 (c1 := w_table) (wf := _) hA0 hsz hw hP hD hS) hS.2.2 dX1_link_38
    · have hw := hw.2 c_11
      refine lv_aload_n hx hb dX1_link_14 rfl (lv_at hl 0 rfl) ?_
      refine va_get (D := g.1) (ci := 5) (v := .ref (a_pa 3)) (C := RX1) (T := TX1) (N := 3) hx hb hts inX1_link_X1 hown hE.1 hP 0 rfl rfl 2 (by decide) (gW hts 1 (.fieldLink RX1 19 "SnowDispatcher$Paths" "table" "[I") rfl) (fun _ h9 => h9) rfl dX1_link_15 ?_
      refine lv_iload_n hx hb dX1_link_18 rfl (lv_at hl 1 rfl) ?_
      refine lv_bipush (v := 8) hx hb dX1_link_19 (by decide) ?_
      refine lv_imul hx hb dX1_link_21 ?_
      refine lv_iload_n hx hb dX1_link_22 rfl (lv_at hl 2 rfl) ?_
      refine lv_iadd hx hb dX1_link_23 ?_
      refine lv_iload_n hx hb dX1_link_24 rfl (lv_at hl 3 rfl) ?_
      have h3 := hw.1
      have hw := hw.2
      refine va_iast hx hb hE.1 hP hD hS 3 0 rfl rfl h3 dX1_link_25 (fun H locs hP hD hS => ?_)
      have hP : va_P g.1 vwCl (List.flatten [kPa g a_pa w_reach w_settled (upd w_table ((x1 * 8) + x2).toNatClampNeg x3)]) H := hP
      have hD : va_D A (List.flatten [kPa g a_pa w_reach w_settled (upd w_table ((x1 * 8) + x2).toNatClampNeg x3)]) := hD
      refine lv_aload_n hx hb dX1_link_26 rfl (lv_at hl 0 rfl) ?_
      refine va_get (D := g.1) (ci := 5) (v := .ref (a_pa 3)) (C := RX1) (T := TX1) (N := 3) hx hb hts inX1_link_X1 hown hE.1 hP 0 rfl rfl 2 (by decide) (gW hts 1 (.fieldLink RX1 19 "SnowDispatcher$Paths" "table" "[I") rfl) (fun _ h9 => h9) rfl dX1_link_27 ?_
      refine lv_iload_n hx hb dX1_link_30 rfl (lv_at hl 2 rfl) ?_
      refine lv_bipush (v := 8) hx hb dX1_link_31 (by decide) ?_
      refine lv_imul hx hb dX1_link_33 ?_
      refine lv_iload_n hx hb dX1_link_34 rfl (lv_at hl 1 rfl) ?_
      refine lv_iadd hx hb dX1_link_35 ?_
      refine lv_iload_n hx hb dX1_link_36 rfl (lv_at hl 3 rfl) ?_
      have h4 := hw.1
      have hw := hw.2
      refine va_iast hx hb hE.1 hP hD hS 3 0 rfl rfl h4 dX1_link_37 (fun H locs hP hD hS => ?_)
      have hP : va_P g.1 vwCl (List.flatten [kPa g a_pa w_reach w_settled (upd (upd w_table ((x1 * 8) + x2).toNatClampNeg x3) ((x2 * 8) + x1).toNatClampNeg x3)]) H := hP
      have hD : va_D A (List.flatten [kPa g a_pa w_reach w_settled (upd (upd w_table ((x1 * 8) + x2).toNatClampNeg x3) ((x2 * 8) + x1).toNatClampNeg x3)]) := hD
      subst hQ
      exact W.vret hx hb hr (gRv1 (c1 := (upd (upd w_table ((x1 * 8) + x2).toNatClampNeg x3) ((x2 * 8) + x1).toNatClampNeg x3)) (wf := _) hA0 hsz hw hP hD hS) hS.2.2 dX1_link_38
abbrev rmX1_between : Room := { frames := 2, cells := 0, slots := 0, locals := 121 }
set_option maxRecDepth 20000 in
theorem inX1_between_X1 : ∀ w ∈ wsX10, w ∈ wsX1_between := by decide +kernel
set_option maxHeartbeats 4000000 in
set_option maxRecDepth 100000 in
theorem ctX1_between (l : Launch) (g : GG) (a_pa : Nat → Nat) (sz : Nat) (w_reach : Nat → Int32) (w_settled : Nat → Int32) (w_table : Nat → Int32) (x1 : Int32) (x2 : Int32) {post : Int32 → Prop} (hw : wpX1_between x1 x2 w_table post) :
    Met l yX1_between wsX1_between rmX1_between (gPc g sz (List.flatten [kPa g a_pa w_reach w_settled w_table]) [.ref (a_pa 0), .int x1, .int x2]) (gQi0 post (gB g (List.flatten [kPa g a_pa w_reach w_settled w_table]) sz (List.flatten [kPa g a_pa w_reach w_settled w_table])) (va_A (List.flatten [kPa g a_pa w_reach w_settled w_table]) sz)) 0 0 (va_A (List.flatten [kPa g a_pa w_reach w_settled w_table]) sz) := by
  refine gOf (cc := cX1_between) (maxL := 3) (ret := (some .int)) (by decide) rfl (Nat.le_of_ble_eq_true rfl) ?_
  intro p e s m below meth c ls Q A hQ hx hb hr hml hts hown hlocks hE hA0 hsz hP hD hA hS hl
  have hl : lv_has ls 3 [(0, .ref (a_pa 0)), (1, .int x1), (2, .int x2)] := hl
  refine lv_iload_n hx hb dX1_between_0 rfl (lv_at hl 1 rfl) ?_
  refine gCi0 (gRunSN (As := [.int x1]) (rest := []) ⟨hx, hb, hml, hown, hts⟩ (ctX6_isJunction l g _ x1 hw) ⟨va_cnB 1 hts gX1_between_X6_isJunction_n27 rfl rfl rfl hE.2.1 (gW hts 4 (.initialized RX6) rfl) (by decide +kernel) ⟨Nat.le_of_ble_eq_true rfl, Nat.le_of_ble_eq_true rfl⟩, gW hts 3 (.static yX6_isJunction) rfl, trivial⟩ hE (gSub hP []) (gDSub hD [] rfl) rfl rfl hl.1 rfl (lv_room (Nat.le_of_ble_eq_true rfl)) dX1_between_1 ⟨Nat.le_of_ble_eq_true rfl, Nat.le_of_ble_eq_true rfl⟩) hP hD hS hA [] rfl rfl rfl (fun r1 H locs hw hP hD hS => ?_)
  have hP : va_P g.1 vwCl (List.flatten [kPa g a_pa w_reach w_settled w_table]) H := hP
  have hD : va_D A (List.flatten [kPa g a_pa w_reach w_settled w_table]) := hD
  refine lv_if_eq (tgt := 28) hx hb dX1_between_4 (by decide) (fun c_4 => ?_) (fun c_4 => ?_)
  · have hw := hw.1 c_4
    refine lv_ldc (v := 1000000) hx hb hown (gW hts 2 (.constant RX1 22 (1000000)) rfl) dX1_between_28 ?_
    subst hQ
    exact W.iret hx hb hr (gRi0 (wf := _) hA0 hsz hw hP hD hS) hS.2.2 dX1_between_30
  · have hw := hw.2 c_4
    refine lv_iload_n hx hb dX1_between_7 rfl (lv_at hl 2 rfl) ?_
    refine gCi0 (gRunSN (As := [.int x2]) (rest := []) ⟨hx, hb, hml, hown, hts⟩ (ctX6_isJunction l g _ x2 hw) ⟨va_cnB 1 hts gX1_between_X6_isJunction_n27 rfl rfl rfl hE.2.1 (gW hts 4 (.initialized RX6) rfl) (by decide +kernel) ⟨Nat.le_of_ble_eq_true rfl, Nat.le_of_ble_eq_true rfl⟩, gW hts 3 (.static yX6_isJunction) rfl, trivial⟩ hE (gSub hP []) (gDSub hD [] rfl) rfl rfl hl.1 rfl (lv_room (Nat.le_of_ble_eq_true rfl)) dX1_between_8 ⟨Nat.le_of_ble_eq_true rfl, Nat.le_of_ble_eq_true rfl⟩) hP hD hS hA [] rfl rfl rfl (fun r2 H locs hw hP hD hS => ?_)
    have hP : va_P g.1 vwCl (List.flatten [kPa g a_pa w_reach w_settled w_table]) H := hP
    have hD : va_D A (List.flatten [kPa g a_pa w_reach w_settled w_table]) := hD
    refine lv_if_eq (tgt := 28) hx hb dX1_between_11 (by decide) (fun c_11 => ?_) (fun c_11 => ?_)
    · have hw := hw.1 c_11
      refine lv_ldc (v := 1000000) hx hb hown (gW hts 2 (.constant RX1 22 (1000000)) rfl) dX1_between_28 ?_
      subst hQ
      exact W.iret hx hb hr (gRi0 (wf := _) hA0 hsz hw hP hD hS) hS.2.2 dX1_between_30
    · have hw := hw.2 c_11
      refine lv_aload_n hx hb dX1_between_14 rfl (lv_at hl 0 rfl) ?_
      refine va_get (D := g.1) (ci := 5) (v := .ref (a_pa 3)) (C := RX1) (T := TX1) (N := 3) hx hb hts inX1_between_X1 hown hE.1 hP 0 rfl rfl 2 (by decide) (gW hts 1 (.fieldLink RX1 19 "SnowDispatcher$Paths" "table" "[I") rfl) (fun _ h9 => h9) rfl dX1_between_15 ?_
      refine lv_iload_n hx hb dX1_between_18 rfl (lv_at hl 1 rfl) ?_
      refine lv_bipush (v := 8) hx hb dX1_between_19 (by decide) ?_
      refine lv_imul hx hb dX1_between_21 ?_
      refine lv_iload_n hx hb dX1_between_22 rfl (lv_at hl 2 rfl) ?_
      refine lv_iadd hx hb dX1_between_23 ?_
      have h3 := hw.1
      have hw := hw.2
      refine va_iald hx hb hE.1 hP 3 0 rfl rfl h3 dX1_between_24 ?_
      refine lv_goto (tgt := 30) hx hb dX1_between_25 (by decide) ?_
      subst hQ
      exact W.iret hx hb hr (gRi0 (wf := _) hA0 hsz hw hP hD hS) hS.2.2 dX1_between_30
abbrev rmX1_improveBy : Room := { frames := 3, cells := 0, slots := 0, locals := 144 }
set_option maxRecDepth 20000 in
theorem inX1_improveBy_X1 : ∀ w ∈ wsX10, w ∈ wsX1_improveBy := by decide +kernel
set_option maxHeartbeats 4000000 in
set_option maxRecDepth 100000 in
theorem ctX1_improveBy (l : Launch) (g : GG) (a_pa : Nat → Nat) (sz : Nat) (w_reach : Nat → Int32) (w_settled : Nat → Int32) (w_table : Nat → Int32) (x1 : Int32) {post : (Nat → Int32) → Prop} (hw : wpX1_improveBy x1 w_table post) :
    Met l yX1_improveBy wsX1_improveBy rmX1_improveBy (gPc g sz (List.flatten [kPa g a_pa w_reach w_settled w_table]) [.ref (a_pa 0), .int x1]) (gQv1 post (fun u1 => gB g (List.flatten [kPa g a_pa w_reach w_settled w_table]) sz (List.flatten [kPa g a_pa w_reach w_settled u1])) (va_A (List.flatten [kPa g a_pa w_reach w_settled w_table]) sz)) 0 0 (va_A (List.flatten [kPa g a_pa w_reach w_settled w_table]) sz) := by
  refine gOf (cc := cX1_improveBy) (maxL := 5) (ret := none) (by decide) rfl (Nat.le_of_ble_eq_true rfl) ?_
  intro p e s m below meth c ls Q A hQ hx hb hr hml hts hown hlocks hE hA0 hsz hP hD hA hS hl
  have hl : lv_has ls 5 [(0, .ref (a_pa 0)), (1, .int x1)] := hl
  have L2 : ∀ (n : Nat) (x2_2 : Int32) (w_table_2 : Nat → Int32) (H : Heap) (locs : List Loc) (ls : Array Slot), wpX1_improveBy_L2 x1 post n x2_2 w_table_2 → va_P g.1 vwCl (List.flatten [kPa g a_pa w_reach w_settled w_table_2]) H → va_D A (List.flatten [kPa g a_pa w_reach w_settled w_table_2]) → va_S A s.heap H locs → lv_has ls 5 [(0, .ref (a_pa 0)), (1, .int x1), (2, .int x2_2)] → W p l e rmX1_improveBy s m (([.ref (a_pa 0), .int x1] : List Value).toArray) below meth c H locs 0 0 Q (F0 m 2 ls []) := by
    intro n_2
    induction n_2 with
    | zero => intro x2_2 w_table_2 H locs ls hw; exact False.elim hw
    | succ n_2 ih_2 =>
      intro x2_2 w_table_2 H locs ls hw hP hD hS hl
      have L10 : ∀ (n : Nat) (x2_10 : Int32) (x3_10 : Int32) (w_table_10 : Nat → Int32) (H : Heap) (locs : List Loc) (ls : Array Slot), wpX1_improveBy_L10 x1 x2_10 (wpX1_improveBy_L2 x1 post n_2) post n x3_10 w_table_10 → va_P g.1 vwCl (List.flatten [kPa g a_pa w_reach w_settled w_table_10]) H → va_D A (List.flatten [kPa g a_pa w_reach w_settled w_table_10]) → va_S A s.heap H locs → lv_has ls 5 [(0, .ref (a_pa 0)), (1, .int x1), (2, .int x2_10), (3, .int x3_10)] → W p l e rmX1_improveBy s m (([.ref (a_pa 0), .int x1] : List Value).toArray) below meth c H locs 0 0 Q (F0 m 10 ls []) := by
        intro n_10
        induction n_10 with
        | zero => intro x2_10 x3_10 w_table_10 H locs ls hw; exact False.elim hw
        | succ n_10 ih_10 =>
          intro x2_10 x3_10 w_table_10 H locs ls hw hP hD hS hl
          refine lv_iload_n hx hb dX1_improveBy_10 rfl (lv_at hl 3 rfl) ?_
          refine lv_bipush (v := 8) hx hb dX1_improveBy_11 (by decide) ?_
          refine lv_icmp_ge (tgt := 61) hx hb dX1_improveBy_13 (by decide) (fun c_13 => ?_) (fun c_13 => ?_)
          · have hw := hw.1 c_13
            refine lv_iinc (v := (x2_10 + 1)) (lv' := [(2, .int (x2_10 + 1)), (0, .ref (a_pa 0)), (1, .int x1), (3, .int x3_10)]) hx hb dX1_improveBy_61 hl (k := 2) rfl rfl (by decide) rfl (fun ls hl => ?_)
            refine lv_goto (tgt := 2) hx hb dX1_improveBy_64 (by decide) ?_
            exact ih_2 (x2_10 + 1) w_table_10 _ _ _ hw hP hD hS (lv_sub hl [1, 2, 0] rfl)
          · have hw := hw.2 c_13
            refine lv_aload_n hx hb dX1_improveBy_16 rfl (lv_at hl 0 rfl) ?_
            refine lv_iload_n hx hb dX1_improveBy_17 rfl (lv_at hl 2 rfl) ?_
            refine lv_iload_n hx hb dX1_improveBy_18 rfl (lv_at hl 1 rfl) ?_
            refine gCi0 (gRunV (As := [.int x2_10, .int x1]) (rest := []) ⟨hx, hb, hml, hown, hts⟩ (ctX1_between l g a_pa _ w_reach w_settled w_table_10 x2_10 x1 hw) (cwV 2 hts gX1_improveBy_X1_between rfl rfl rfl (by decide +kernel) ⟨Nat.le_of_ble_eq_true rfl, Nat.le_of_ble_eq_true rfl⟩) hE (gSub hP [0]) (gDSub hD [0] rfl) 0 5 rfl rfl rfl rfl rfl hl.1 rfl (lv_room (Nat.le_of_ble_eq_true rfl)) dX1_improveBy_19 ⟨Nat.le_of_ble_eq_true rfl, Nat.le_of_ble_eq_true rfl⟩) hP hD hS hA [0] rfl rfl rfl (fun r1 H locs hw hP hD hS => ?_)
            have hP : va_P g.1 vwCl (List.flatten [kPa g a_pa w_reach w_settled w_table_10]) H := hP
            have hD : va_D A (List.flatten [kPa g a_pa w_reach w_settled w_table_10]) := hD
            refine lv_aload_n hx hb dX1_improveBy_22 rfl (lv_at hl 0 rfl) ?_
            refine lv_iload_n hx hb dX1_improveBy_23 rfl (lv_at hl 1 rfl) ?_
            refine lv_iload_n hx hb dX1_improveBy_24 rfl (lv_at hl 3 rfl) ?_
            refine gCi0 (gRunV (As := [.int x1, .int x3_10]) (rest := [.int r1]) ⟨hx, hb, hml, hown, hts⟩ (ctX1_between l g a_pa _ w_reach w_settled w_table_10 x1 x3_10 hw) (cwV 2 hts gX1_improveBy_X1_between rfl rfl rfl (by decide +kernel) ⟨Nat.le_of_ble_eq_true rfl, Nat.le_of_ble_eq_true rfl⟩) hE (gSub hP [0]) (gDSub hD [0] rfl) 0 5 rfl rfl rfl rfl rfl hl.1 rfl (lv_room (Nat.le_of_ble_eq_true rfl)) dX1_improveBy_25 ⟨Nat.le_of_ble_eq_true rfl, Nat.le_of_ble_eq_true rfl⟩) hP hD hS hA [0] rfl rfl rfl (fun r2 H locs hw hP hD hS => ?_)
            have hP : va_P g.1 vwCl (List.flatten [kPa g a_pa w_reach w_settled w_table_10]) H := hP
            have hD : va_D A (List.flatten [kPa g a_pa w_reach w_settled w_table_10]) := hD
            refine lv_iadd hx hb dX1_improveBy_28 ?_
            refine lv_istore (lv' := [(4, .int (r1 + r2)), (0, .ref (a_pa 0)), (1, .int x1), (2, .int x2_10), (3, .int x3_10)]) hx hb dX1_improveBy_29 hl (by decide) rfl (fun ls hl => ?_)
            refine lv_iload hx hb dX1_improveBy_31 (lv_at hl 0 rfl) ?_
            refine lv_aload_n hx hb dX1_improveBy_33 rfl (lv_at hl 1 rfl) ?_
            refine lv_iload_n hx hb dX1_improveBy_34 rfl (lv_at hl 3 rfl) ?_
            refine lv_iload_n hx hb dX1_improveBy_35 rfl (lv_at hl 4 rfl) ?_
            refine gCi0 (gRunV (As := [.int x2_10, .int x3_10]) (rest := [.int (r1 + r2)]) ⟨hx, hb, hml, hown, hts⟩ (ctX1_between l g a_pa _ w_reach w_settled w_table_10 x2_10 x3_10 hw) (cwV 2 hts gX1_improveBy_X1_between rfl rfl rfl (by decide +kernel) ⟨Nat.le_of_ble_eq_true rfl, Nat.le_of_ble_eq_true rfl⟩) hE (gSub hP [0]) (gDSub hD [0] rfl) 0 5 rfl rfl rfl rfl rfl hl.1 rfl (lv_room (Nat.le_of_ble_eq_true rfl)) dX1_improveBy_36 ⟨Nat.le_of_ble_eq_true rfl, Nat.le_of_ble_eq_true rfl⟩) hP hD hS hA [0] rfl rfl rfl (fun r3 H locs hw hP hD hS => ?_)
            have hP : va_P g.1 vwCl (List.flatten [kPa g a_pa w_reach w_settled w_table_10]) H := hP
            have hD : va_D A (List.flatten [kPa g a_pa w_reach w_settled w_table_10]) := hD
            refine lv_icmp_ge (tgt := 55) hx hb dX1_improveBy_39 (by decide) (fun c_39 => ?_) (fun c_39 => ?_)
            · have hw := hw.1 c_39
              refine lv_iinc (v := (x3_10 + 1)) (lv' := [(3, .int (x3_10 + 1)), (4, .int (r1 + r2)), (0, .ref (a_pa 0)), (1, .int x1), (2, .int x2_10)]) hx hb dX1_improveBy_55 hl (k := 4) rfl rfl (by decide) rfl (fun ls hl => ?_)
              refine lv_goto (tgt := 10) hx hb dX1_improveBy_58 (by decide) ?_
              exact ih_10 x2_10 (x3_10 + 1) w_table_10 _ _ _ hw hP hD hS (lv_sub hl [2, 3, 4, 0] rfl)
            · have hw := hw.2 c_39
              refine lv_aload_n hx hb dX1_improveBy_42 rfl (lv_at hl 1 rfl) ?_
              refine va_get (D := g.1) (ci := 5) (v := .ref (a_pa 3)) (C := RX1) (T := TX1) (N := 3) hx hb hts inX1_improveBy_X1 hown hE.1 hP 0 rfl rfl 2 (by decide) (gW hts 1 (.fieldLink RX1 19 "SnowDispatcher$Paths" "table" "[I") rfl) (fun _ h9 => h9) rfl dX1_improveBy_43 ?_
              refine lv_iload_n hx hb dX1_improveBy_46 rfl (lv_at hl 3 rfl) ?_
              refine lv_bipush (v := 8) hx hb dX1_improveBy_47 (by decide) ?_
              refine lv_imul hx hb dX1_improveBy_49 ?_
              refine lv_iload_n hx hb dX1_improveBy_50 rfl (lv_at hl 4 rfl) ?_
              refine lv_iadd hx hb dX1_improveBy_51 ?_
              refine lv_iload hx hb dX1_improveBy_52 (lv_at hl 0 rfl) ?_
              have h4 := hw.1
              have hw := hw.2
              refine va_iast hx hb hE.1 hP hD hS 3 0 rfl rfl h4 dX1_improveBy_54 (fun H locs hP hD hS => ?_)
              have hP : va_P g.1 vwCl (List.flatten [kPa g a_pa w_reach w_settled (upd w_table_10 ((x2_10 * 8) + x3_10).toNatClampNeg (r1 + r2))]) H := hP
              have hD : va_D A (List.flatten [kPa g a_pa w_reach w_settled (upd w_table_10 ((x2_10 * 8) + x3_10).toNatClampNeg (r1 + r2))]) := hD
              refine lv_iinc (v := (x3_10 + 1)) (lv' := [(3, .int (x3_10 + 1)), (4, .int (r1 + r2)), (0, .ref (a_pa 0)), (1, .int x1), (2, .int x2_10)]) hx hb dX1_improveBy_55 hl (k := 4) rfl rfl (by decide) rfl (fun ls hl => ?_)
              refine lv_goto (tgt := 10) hx hb dX1_improveBy_58 (by decide) ?_
              exact ih_10 x2_10 (x3_10 + 1) (upd w_table_10 ((x2_10 * 8) + x3_10).toNatClampNeg (r1 + r2)) _ _ _ hw hP hD hS (lv_sub hl [2, 3, 4, 0] rfl)
      refine lv_iload_n hx hb dX1_improveBy_2 rfl (lv_at hl 2 rfl) ?_
      refine lv_bipush (v := 8) hx hb dX1_improveBy_3 (by decide) ?_
      refine lv_icmp_ge (tgt := 67) hx hb dX1_improveBy_5 (by decide) (fun c_5 => ?_) (fun c_5 => ?_)
      · have hw := hw.1 c_5
        subst hQ
        exact W.vret hx hb hr (gRv1 (c1 := w_table_2) (wf := _) hA0 hsz hw hP hD hS) hS.2.2 dX1_improveBy_67
      · have hw := hw.2 c_5
        refine lv_iconst (v := 0) hx hb dX1_improveBy_8 (by decide) ?_
        refine lv_istore_n (lv' := [(3, .int 0), (0, .ref (a_pa 0)), (1, .int x1), (2, .int x2_2)]) hx hb dX1_improveBy_9 rfl hl (by decide) rfl (fun ls hl => ?_)
        obtain ⟨n, hw⟩ := hw
        exact L10 n x2_2 0 w_table_2 _ _ _ hw hP hD hS (lv_sub hl [1, 2, 3, 0] rfl)
  refine lv_iconst (v := 0) hx hb dX1_improveBy_0 (by decide) ?_
  refine lv_istore_n (lv' := [(2, .int 0), (0, .ref (a_pa 0)), (1, .int x1)]) hx hb dX1_improveBy_1 rfl hl (by decide) rfl (fun ls hl => ?_)
  obtain ⟨n, hw⟩ := hw
  exact L2 n 0 w_table _ _ _ hw hP hD hS (lv_sub hl [1, 2, 0] rfl)
abbrev rmX1_improveAll : Room := { frames := 4, cells := 0, slots := 0, locals := 169 }
set_option maxRecDepth 20000 in
theorem inX1_improveAll_X1 : ∀ w ∈ wsX10, w ∈ wsX1_improveAll := by decide +kernel
set_option maxRecDepth 20000 in
theorem inX1_improveAll_X4 : ∀ w ∈ wsX40, w ∈ wsX1_improveAll := by decide +kernel
set_option maxHeartbeats 4000000 in
set_option maxRecDepth 100000 in
theorem ctX1_improveAll (l : Launch) (g : GG) (a_pa : Nat → Nat) (a_st : Nat → Nat) (sz : Nat) (w_reach : Nat → Int32) (w_settled : Nat → Int32) (w_table : Nat → Int32) (s_lower : Nat → Int32) (s_higher : Nat → Int32) (s_kind : Nat → Int32) (s_size : Nat → Int32) (s_snow : Nat → Int32) (s_saltEnd : Nat → Int32) (s_complained : Nat → Int32) (s_clearings : Nat → Int32) (s_count : Int32) {post : (Nat → Int32) → Prop} (hw : wpX1_improveAll w_table s_lower s_higher s_size s_count post) :
    Met l yX1_improveAll wsX1_improveAll rmX1_improveAll (gPc g sz (List.flatten [kPa g a_pa w_reach w_settled w_table, kSt g a_st s_lower s_higher s_kind s_size s_snow s_saltEnd s_complained s_clearings s_count]) [.ref (a_pa 0), .ref (a_st 0)]) (gQv1 post (fun u1 => gB g (List.flatten [kPa g a_pa w_reach w_settled w_table, kSt g a_st s_lower s_higher s_kind s_size s_snow s_saltEnd s_complained s_clearings s_count]) sz (List.flatten [kPa g a_pa w_reach w_settled u1, kSt g a_st s_lower s_higher s_kind s_size s_snow s_saltEnd s_complained s_clearings s_count])) (va_A (List.flatten [kPa g a_pa w_reach w_settled w_table, kSt g a_st s_lower s_higher s_kind s_size s_snow s_saltEnd s_complained s_clearings s_count]) sz)) 0 0 (va_A (List.flatten [kPa g a_pa w_reach w_settled w_table, kSt g a_st s_lower s_higher s_kind s_size s_snow s_saltEnd s_complained s_clearings s_count]) sz) := by
  refine gOf (cc := cX1_improveAll) (maxL := 4) (ret := none) (by decide) rfl (Nat.le_of_ble_eq_true rfl) ?_
  intro p e s m below meth c ls Q A hQ hx hb hr hml hts hown hlocks hE hA0 hsz hP hD hA hS hl
  have hl : lv_has ls 4 [(0, .ref (a_pa 0)), (1, .ref (a_st 0))] := hl
  have L96 : ∀ (n : Nat) (x2_96 : Int32) (w_table_96 : Nat → Int32) (H : Heap) (locs : List Loc) (ls : Array Slot), wpX1_improveAll_L96 s_lower s_higher s_size s_count post n x2_96 w_table_96 → va_P g.1 vwCl (List.flatten [kPa g a_pa w_reach w_settled w_table_96, kSt g a_st s_lower s_higher s_kind s_size s_snow s_saltEnd s_complained s_clearings s_count]) H → va_D A (List.flatten [kPa g a_pa w_reach w_settled w_table_96, kSt g a_st s_lower s_higher s_kind s_size s_snow s_saltEnd s_complained s_clearings s_count]) → va_S A s.heap H locs → lv_has ls 4 [(0, .ref (a_pa 0)), (2, .int x2_96)] → W p l e rmX1_improveAll s m (([.ref (a_pa 0), .ref (a_st 0)] : List Value).toArray) below meth c H locs 0 0 Q (F0 m 96 ls []) := by
    intro n_96
    induction n_96 with
    | zero => intro x2_96 w_table_96 H locs ls hw; exact False.elim hw
    | succ n_96 ih_96 =>
      intro x2_96 w_table_96 H locs ls hw hP hD hS hl
      refine lv_iload_n hx hb dX1_improveAll_96 rfl (lv_at hl 1 rfl) ?_
      refine lv_bipush (v := 8) hx hb dX1_improveAll_97 (by decide) ?_
      refine lv_icmp_ge (tgt := 113) hx hb dX1_improveAll_99 (by decide) (fun c_99 => ?_) (fun c_99 => ?_)
      · have hw := hw.1 c_99
        subst hQ
        exact W.vret hx hb hr (gRv1 (c1 := w_table_96) (wf := _) hA0 hsz hw hP hD hS) hS.2.2 dX1_improveAll_113
      · have hw := hw.2 c_99
        refine lv_aload_n hx hb dX1_improveAll_102 rfl (lv_at hl 0 rfl) ?_
        refine lv_iload_n hx hb dX1_improveAll_103 rfl (lv_at hl 1 rfl) ?_
        refine gCv1 (gRunV (As := [.int x2_96]) (rest := []) ⟨hx, hb, hml, hown, hts⟩ (ctX1_improveBy l g a_pa _ w_reach w_settled w_table_96 x2_96 hw) (cwV 1 hts gX1_improveAll_X1_improveBy rfl rfl rfl (by decide +kernel) ⟨Nat.le_of_ble_eq_true rfl, Nat.le_of_ble_eq_true rfl⟩) hE (gSub hP [0]) (gDSub hD [0] rfl) 0 5 rfl rfl rfl rfl rfl hl.1 rfl (lv_room (Nat.le_of_ble_eq_true rfl)) dX1_improveAll_104 ⟨Nat.le_of_ble_eq_true rfl, Nat.le_of_ble_eq_true rfl⟩) hP hD hS hA [0] rfl (fun _ => rfl) rfl (fun w_table_v1 H locs hw hP hD hS => ?_)
        have hP : va_P g.1 vwCl (List.flatten [kPa g a_pa w_reach w_settled w_table_v1, kSt g a_st s_lower s_higher s_kind s_size s_snow s_saltEnd s_complained s_clearings s_count]) H := hP
        have hD : va_D A (List.flatten [kPa g a_pa w_reach w_settled w_table_v1, kSt g a_st s_lower s_higher s_kind s_size s_snow s_saltEnd s_complained s_clearings s_count]) := hD
        refine lv_iinc (v := (x2_96 + 1)) (lv' := [(2, .int (x2_96 + 1)), (0, .ref (a_pa 0))]) hx hb dX1_improveAll_107 hl (k := 1) rfl rfl (by decide) rfl (fun ls hl => ?_)
        refine lv_goto (tgt := 96) hx hb dX1_improveAll_110 (by decide) ?_
        exact ih_96 (x2_96 + 1) w_table_v1 _ _ _ hw hP hD hS (lv_sub hl [1, 0] rfl)
  have L52 : ∀ (n : Nat) (x2_52 : Int32) (w_table_52 : Nat → Int32) (H : Heap) (locs : List Loc) (ls : Array Slot), wpX1_improveAll_L52 s_lower s_higher s_size s_count post n x2_52 w_table_52 → va_P g.1 vwCl (List.flatten [kPa g a_pa w_reach w_settled w_table_52, kSt g a_st s_lower s_higher s_kind s_size s_snow s_saltEnd s_complained s_clearings s_count]) H → va_D A (List.flatten [kPa g a_pa w_reach w_settled w_table_52, kSt g a_st s_lower s_higher s_kind s_size s_snow s_saltEnd s_complained s_clearings s_count]) → va_S A s.heap H locs → lv_has ls 4 [(0, .ref (a_pa 0)), (1, .ref (a_st 0)), (2, .int x2_52)] → W p l e rmX1_improveAll s m (([.ref (a_pa 0), .ref (a_st 0)] : List Value).toArray) below meth c H locs 0 0 Q (F0 m 52 ls []) := by
    intro n_52
    induction n_52 with
    | zero => intro x2_52 w_table_52 H locs ls hw; exact False.elim hw
    | succ n_52 ih_52 =>
      intro x2_52 w_table_52 H locs ls hw hP hD hS hl
      refine lv_iload_n hx hb dX1_improveAll_52 rfl (lv_at hl 2 rfl) ?_
      refine lv_aload_n hx hb dX1_improveAll_53 rfl (lv_at hl 1 rfl) ?_
      refine va_get (D := g.1) (ci := 8) (v := .int s_count) (C := RX4) (T := TX4) (N := 9) hx hb hts inX1_improveAll_X4 hown hE.1 hP 4 rfl rfl 8 (by decide) (gW hts 3 (.fieldLink RX1 31 "SnowDispatcher$Streets" "count" "I") rfl) (fun _ h9 => h9) rfl dX1_improveAll_54 ?_
      refine lv_icmp_ge (tgt := 94) hx hb dX1_improveAll_57 (by decide) (fun c_57 => ?_) (fun c_57 => ?_)
      · have hw := hw.1 c_57
        refine lv_iconst (v := 0) hx hb dX1_improveAll_94 (by decide) ?_
        refine lv_istore_n (lv' := [(2, .int 0), (0, .ref (a_pa 0)), (1, .ref (a_st 0))]) hx hb dX1_improveAll_95 rfl hl (by decide) rfl (fun ls hl => ?_)
        obtain ⟨n, hw⟩ := hw
        exact L96 n 0 w_table_52 _ _ _ hw hP hD hS (lv_sub hl [1, 0] rfl)
      · have hw := hw.2 c_57
        refine lv_iload_n hx hb dX1_improveAll_60 rfl (lv_at hl 2 rfl) ?_
        refine lv_bipush (v := 12) hx hb dX1_improveAll_61 (by decide) ?_
        refine lv_icmp_ge (tgt := 94) hx hb dX1_improveAll_63 (by decide) (fun c_63 => ?_) (fun c_63 => ?_)
        · have hw := hw.1 c_63
          refine lv_iconst (v := 0) hx hb dX1_improveAll_94 (by decide) ?_
          refine lv_istore_n (lv' := [(2, .int 0), (0, .ref (a_pa 0)), (1, .ref (a_st 0))]) hx hb dX1_improveAll_95 rfl hl (by decide) rfl (fun ls hl => ?_)
          obtain ⟨n, hw⟩ := hw
          exact L96 n 0 w_table_52 _ _ _ hw hP hD hS (lv_sub hl [1, 0] rfl)
        · have hw := hw.2 c_63
          refine lv_aload_n hx hb dX1_improveAll_66 rfl (lv_at hl 0 rfl) ?_
          refine lv_aload_n hx hb dX1_improveAll_67 rfl (lv_at hl 1 rfl) ?_
          refine va_get (D := g.1) (ci := 8) (v := .ref (a_st 1)) (C := RX4) (T := TX4) (N := 9) hx hb hts inX1_improveAll_X4 hown hE.1 hP 4 rfl rfl 0 (by decide) (gW hts 4 (.fieldLink RX1 49 "SnowDispatcher$Streets" "lower" "[I") rfl) (fun _ h9 => h9) rfl dX1_improveAll_68 ?_
          refine lv_iload_n hx hb dX1_improveAll_71 rfl (lv_at hl 2 rfl) ?_
          have h2 := hw.1
          have hw := hw.2
          refine va_iald hx hb hE.1 hP 5 0 rfl rfl h2 dX1_improveAll_72 ?_
          refine lv_aload_n hx hb dX1_improveAll_73 rfl (lv_at hl 1 rfl) ?_
          refine va_get (D := g.1) (ci := 8) (v := .ref (a_st 2)) (C := RX4) (T := TX4) (N := 9) hx hb hts inX1_improveAll_X4 hown hE.1 hP 4 rfl rfl 1 (by decide) (gW hts 5 (.fieldLink RX1 52 "SnowDispatcher$Streets" "higher" "[I") rfl) (fun _ h9 => h9) rfl dX1_improveAll_74 ?_
          refine lv_iload_n hx hb dX1_improveAll_77 rfl (lv_at hl 2 rfl) ?_
          have h3 := hw.1
          have hw := hw.2
          refine va_iald hx hb hE.1 hP 6 0 rfl rfl h3 dX1_improveAll_78 ?_
          refine lv_aload_n hx hb dX1_improveAll_79 rfl (lv_at hl 1 rfl) ?_
          refine va_get (D := g.1) (ci := 8) (v := .ref (a_st 4)) (C := RX4) (T := TX4) (N := 9) hx hb hts inX1_improveAll_X4 hown hE.1 hP 4 rfl rfl 3 (by decide) (gW hts 6 (.fieldLink RX1 41 "SnowDispatcher$Streets" "size" "[I") rfl) (fun _ h9 => h9) rfl dX1_improveAll_80 ?_
          refine lv_iload_n hx hb dX1_improveAll_83 rfl (lv_at hl 2 rfl) ?_
          have h4 := hw.1
          have hw := hw.2
          refine va_iald hx hb hE.1 hP 8 0 rfl rfl h4 dX1_improveAll_84 ?_
          refine gCv1 (gRunV (As := [.int (s_lower x2_52.toNatClampNeg), .int (s_higher x2_52.toNatClampNeg), .int (s_size x2_52.toNatClampNeg)]) (rest := []) ⟨hx, hb, hml, hown, hts⟩ (ctX1_link l g a_pa _ w_reach w_settled w_table_52 (s_lower x2_52.toNatClampNeg) (s_higher x2_52.toNatClampNeg) (s_size x2_52.toNatClampNeg) hw) (cwV 3 hts gX1_improveAll_X1_link rfl rfl rfl (by decide +kernel) ⟨Nat.le_of_ble_eq_true rfl, Nat.le_of_ble_eq_true rfl⟩) hE (gSub hP [0]) (gDSub hD [0] rfl) 0 5 rfl rfl rfl rfl rfl hl.1 rfl (lv_room (Nat.le_of_ble_eq_true rfl)) dX1_improveAll_85 ⟨Nat.le_of_ble_eq_true rfl, Nat.le_of_ble_eq_true rfl⟩) hP hD hS hA [0] rfl (fun _ => rfl) rfl (fun w_table_v5 H locs hw hP hD hS => ?_)
          have hP : va_P g.1 vwCl (List.flatten [kPa g a_pa w_reach w_settled w_table_v5, kSt g a_st s_lower s_higher s_kind s_size s_snow s_saltEnd s_complained s_clearings s_count]) H := hP
          have hD : va_D A (List.flatten [kPa g a_pa w_reach w_settled w_table_v5, kSt g a_st s_lower s_higher s_kind s_size s_snow s_saltEnd s_complained s_clearings s_count]) := hD
          refine lv_iinc (v := (x2_52 + 1)) (lv' := [(2, .int (x2_52 + 1)), (0, .ref (a_pa 0)), (1, .ref (a_st 0))]) hx hb dX1_improveAll_88 hl (k := 2) rfl rfl (by decide) rfl (fun ls hl => ?_)
          refine lv_goto (tgt := 52) hx hb dX1_improveAll_91 (by decide) ?_
          exact ih_52 (x2_52 + 1) w_table_v5 _ _ _ hw hP hD hS (lv_sub hl [1, 2, 0] rfl)
  have L2 : ∀ (n : Nat) (x2_2 : Int32) (w_table_2 : Nat → Int32) (H : Heap) (locs : List Loc) (ls : Array Slot), wpX1_improveAll_L2 s_lower s_higher s_size s_count post n x2_2 w_table_2 → va_P g.1 vwCl (List.flatten [kPa g a_pa w_reach w_settled w_table_2, kSt g a_st s_lower s_higher s_kind s_size s_snow s_saltEnd s_complained s_clearings s_count]) H → va_D A (List.flatten [kPa g a_pa w_reach w_settled w_table_2, kSt g a_st s_lower s_higher s_kind s_size s_snow s_saltEnd s_complained s_clearings s_count]) → va_S A s.heap H locs → lv_has ls 4 [(0, .ref (a_pa 0)), (1, .ref (a_st 0)), (2, .int x2_2)] → W p l e rmX1_improveAll s m (([.ref (a_pa 0), .ref (a_st 0)] : List Value).toArray) below meth c H locs 0 0 Q (F0 m 2 ls []) := by
    intro n_2
    induction n_2 with
    | zero => intro x2_2 w_table_2 H locs ls hw; exact False.elim hw
    | succ n_2 ih_2 =>
      intro x2_2 w_table_2 H locs ls hw hP hD hS hl
      have L10 : ∀ (n : Nat) (x2_10 : Int32) (x3_10 : Int32) (w_table_10 : Nat → Int32) (H : Heap) (locs : List Loc) (ls : Array Slot), wpX1_improveAll_L10 s_lower s_higher s_size s_count x2_10 (wpX1_improveAll_L2 s_lower s_higher s_size s_count post n_2) post n x3_10 w_table_10 → va_P g.1 vwCl (List.flatten [kPa g a_pa w_reach w_settled w_table_10, kSt g a_st s_lower s_higher s_kind s_size s_snow s_saltEnd s_complained s_clearings s_count]) H → va_D A (List.flatten [kPa g a_pa w_reach w_settled w_table_10, kSt g a_st s_lower s_higher s_kind s_size s_snow s_saltEnd s_complained s_clearings s_count]) → va_S A s.heap H locs → lv_has ls 4 [(0, .ref (a_pa 0)), (1, .ref (a_st 0)), (2, .int x2_10), (3, .int x3_10)] → W p l e rmX1_improveAll s m (([.ref (a_pa 0), .ref (a_st 0)] : List Value).toArray) below meth c H locs 0 0 Q (F0 m 10 ls []) := by
        intro n_10
        induction n_10 with
        | zero => intro x2_10 x3_10 w_table_10 H locs ls hw; exact False.elim hw
        | succ n_10 ih_10 =>
          intro x2_10 x3_10 w_table_10 H locs ls hw hP hD hS hl
          refine lv_iload_n hx hb dX1_improveAll_10 rfl (lv_at hl 3 rfl) ?_
          refine lv_bipush (v := 8) hx hb dX1_improveAll_11 (by decide) ?_
          refine lv_icmp_ge (tgt := 44) hx hb dX1_improveAll_13 (by decide) (fun c_13 => ?_) (fun c_13 => ?_)
          · have hw := hw.1 c_13
            refine lv_iinc (v := (x2_10 + 1)) (lv' := [(2, .int (x2_10 + 1)), (0, .ref (a_pa 0)), (1, .ref (a_st 0)), (3, .int x3_10)]) hx hb dX1_improveAll_44 hl (k := 2) rfl rfl (by decide) rfl (fun ls hl => ?_)
            refine lv_goto (tgt := 2) hx hb dX1_improveAll_47 (by decide) ?_
            exact ih_2 (x2_10 + 1) w_table_10 _ _ _ hw hP hD hS (lv_sub hl [1, 2, 0] rfl)
          · have hw := hw.2 c_13
            refine lv_aload_n hx hb dX1_improveAll_16 rfl (lv_at hl 0 rfl) ?_
            refine va_get (D := g.1) (ci := 5) (v := .ref (a_pa 3)) (C := RX1) (T := TX1) (N := 3) hx hb hts inX1_improveAll_X1 hown hE.1 hP 0 rfl rfl 2 (by decide) (gW hts 1 (.fieldLink RX1 19 "SnowDispatcher$Paths" "table" "[I") rfl) (fun _ h9 => h9) rfl dX1_improveAll_17 ?_
            refine lv_iload_n hx hb dX1_improveAll_20 rfl (lv_at hl 2 rfl) ?_
            refine lv_bipush (v := 8) hx hb dX1_improveAll_21 (by decide) ?_
            refine lv_imul hx hb dX1_improveAll_23 ?_
            refine lv_iload_n hx hb dX1_improveAll_24 rfl (lv_at hl 3 rfl) ?_
            refine lv_iadd hx hb dX1_improveAll_25 ?_
            refine lv_iload_n hx hb dX1_improveAll_26 rfl (lv_at hl 2 rfl) ?_
            refine lv_iload_n hx hb dX1_improveAll_27 rfl (lv_at hl 3 rfl) ?_
            refine lv_icmp_ne (tgt := 35) hx hb dX1_improveAll_28 (by decide) (fun c_28 => ?_) (fun c_28 => ?_)
            · have hw := hw.1 c_28
              refine lv_ldc (v := 1000000) hx hb hown (gW hts 2 (.constant RX1 22 (1000000)) rfl) dX1_improveAll_35 ?_
              have h6 := hw.1
              have hw := hw.2
              refine va_iast hx hb hE.1 hP hD hS 3 0 rfl rfl h6 dX1_improveAll_37 (fun H locs hP hD hS => ?_)
              have hP : va_P g.1 vwCl (List.flatten [kPa g a_pa w_reach w_settled (upd w_table_10 ((x2_10 * 8) + x3_10).toNatClampNeg 1000000), kSt g a_st s_lower s_higher s_kind s_size s_snow s_saltEnd s_complained s_clearings s_count]) H := hP
              have hD : va_D A (List.flatten [kPa g a_pa w_reach w_settled (upd w_table_10 ((x2_10 * 8) + x3_10).toNatClampNeg 1000000), kSt g a_st s_lower s_higher s_kind s_size s_snow s_saltEnd s_complained s_clearings s_count]) := hD
              refine lv_iinc (v := (x3_10 + 1)) (lv' := [(3, .int (x3_10 + 1)), (0, .ref (a_pa 0)), (1, .ref (a_st 0)), (2, .int x2_10)]) hx hb dX1_improveAll_38 hl (k := 3) rfl rfl (by decide) rfl (fun ls hl => ?_)
              refine lv_goto (tgt := 10) hx hb dX1_improveAll_41 (by decide) ?_
              exact ih_10 x2_10 (x3_10 + 1) (upd w_table_10 ((x2_10 * 8) + x3_10).toNatClampNeg 1000000) _ _ _ hw hP hD hS (lv_sub hl [1, 2, 3, 0] rfl)
            · have hw := hw.2 c_28
              refine lv_iconst (v := 0) hx hb dX1_improveAll_31 (by decide) ?_
              refine lv_goto (tgt := 37) hx hb dX1_improveAll_32 (by decide) ?_
              have h7 := hw.1
              have hw := hw.2
              refine va_iast hx hb hE.1 hP hD hS 3 0 rfl rfl h7 dX1_improveAll_37 (fun H locs hP hD hS => ?_)
              have hP : va_P g.1 vwCl (List.flatten [kPa g a_pa w_reach w_settled (upd w_table_10 ((x2_10 * 8) + x3_10).toNatClampNeg 0), kSt g a_st s_lower s_higher s_kind s_size s_snow s_saltEnd s_complained s_clearings s_count]) H := hP
              have hD : va_D A (List.flatten [kPa g a_pa w_reach w_settled (upd w_table_10 ((x2_10 * 8) + x3_10).toNatClampNeg 0), kSt g a_st s_lower s_higher s_kind s_size s_snow s_saltEnd s_complained s_clearings s_count]) := hD
              refine lv_iinc (v := (x3_10 + 1)) (lv' := [(3, .int (x3_10 + 1)), (0, .ref (a_pa 0)), (1, .ref (a_st 0)), (2, .int x2_10)]) hx hb dX1_improveAll_38 hl (k := 3) rfl rfl (by decide) rfl (fun ls hl => ?_)
              refine lv_goto (tgt := 10) hx hb dX1_improveAll_41 (by decide) ?_
              exact ih_10 x2_10 (x3_10 + 1) (upd w_table_10 ((x2_10 * 8) + x3_10).toNatClampNeg 0) _ _ _ hw hP hD hS (lv_sub hl [1, 2, 3, 0] rfl)
      refine lv_iload_n hx hb dX1_improveAll_2 rfl (lv_at hl 2 rfl) ?_
      refine lv_bipush (v := 8) hx hb dX1_improveAll_3 (by decide) ?_
      refine lv_icmp_ge (tgt := 50) hx hb dX1_improveAll_5 (by decide) (fun c_5 => ?_) (fun c_5 => ?_)
      · have hw := hw.1 c_5
        refine lv_iconst (v := 0) hx hb dX1_improveAll_50 (by decide) ?_
        refine lv_istore_n (lv' := [(2, .int 0), (0, .ref (a_pa 0)), (1, .ref (a_st 0))]) hx hb dX1_improveAll_51 rfl hl (by decide) rfl (fun ls hl => ?_)
        obtain ⟨n, hw⟩ := hw
        exact L52 n 0 w_table_2 _ _ _ hw hP hD hS (lv_sub hl [1, 2, 0] rfl)
      · have hw := hw.2 c_5
        refine lv_iconst (v := 0) hx hb dX1_improveAll_8 (by decide) ?_
        refine lv_istore_n (lv' := [(3, .int 0), (0, .ref (a_pa 0)), (1, .ref (a_st 0)), (2, .int x2_2)]) hx hb dX1_improveAll_9 rfl hl (by decide) rfl (fun ls hl => ?_)
        obtain ⟨n, hw⟩ := hw
        exact L10 n x2_2 0 w_table_2 _ _ _ hw hP hD hS (lv_sub hl [1, 2, 3, 0] rfl)
  refine lv_iconst (v := 0) hx hb dX1_improveAll_0 (by decide) ?_
  refine lv_istore_n (lv' := [(2, .int 0), (0, .ref (a_pa 0)), (1, .ref (a_st 0))]) hx hb dX1_improveAll_1 rfl hl (by decide) rfl (fun ls hl => ?_)
  obtain ⟨n, hw⟩ := hw
  exact L2 n 0 w_table _ _ _ hw hP hD hS (lv_sub hl [1, 2, 0] rfl)
