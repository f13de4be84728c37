/-! contracts: by program (wip/whole/gen) -/
abbrev rmX7_thrown : Room := { frames := 1, cells := 0, slots := 0, locals := 100 }
set_option maxRecDepth 20000 in
theorem inX7_thrown_X7 : ∀ w ∈ wsX70, w ∈ wsX7_thrown := by decide +kernel
set_option maxHeartbeats 4000000 in
set_option maxRecDepth 100000 in
theorem ctX7_thrown (l : Launch) (g : GG) (a_mo : Nat → Nat) (a_ms : Nat → Nat) (a_mwas : Nat → Nat) (a_mtried : Nat → Nat) (a_msaved : Nat → Nat) (a_mpast : Nat → Nat) (a_mfar : Nat → Nat) (a_mdrift : Nat → Nat) (a_mline : Nat → Nat) (a_mtape : Nat → Nat) (a_mcommands : Nat → Nat) (sz : Nat) (m_changes : Int32) (m_thrown : Int32) (m_errorAt : Int32) (m_failedAt : Int32) (m_answer : Int32) (m_isSaved : Int32) (m_lined : Int32) (m_taped : Int32) (m_here : Int32) (m_commandMany : Int32) {post : Int32 → Prop} (hw : wpX7_thrown m_thrown post) :
    Met l yX7_thrown wsX7_thrown rmX7_thrown (gPc g sz (List.flatten [kMo g a_mo a_ms a_mwas a_mtried a_msaved a_mpast a_mfar a_mdrift a_mline a_mtape a_mcommands m_changes m_thrown m_errorAt m_failedAt m_answer m_isSaved m_lined m_taped m_here m_commandMany]) [.ref (a_mo 0)]) (gQi0 post (gB g (List.flatten [kMo g a_mo a_ms a_mwas a_mtried a_msaved a_mpast a_mfar a_mdrift a_mline a_mtape a_mcommands m_changes m_thrown m_errorAt m_failedAt m_answer m_isSaved m_lined m_taped m_here m_commandMany]) sz (List.flatten [kMo g a_mo a_ms a_mwas a_mtried a_msaved a_mpast a_mfar a_mdrift a_mline a_mtape a_mcommands m_changes m_thrown m_errorAt m_failedAt m_answer m_isSaved m_lined m_taped m_here m_commandMany])) (va_A (List.flatten [kMo g a_mo a_ms a_mwas a_mtried a_msaved a_mpast a_mfar a_mdrift a_mline a_mtape a_mcommands m_changes m_thrown m_errorAt m_failedAt m_answer m_isSaved m_lined m_taped m_here m_commandMany]) sz)) 0 0 (va_A (List.flatten [kMo g a_mo a_ms a_mwas a_mtried a_msaved a_mpast a_mfar a_mdrift a_mline a_mtape a_mcommands m_changes m_thrown m_errorAt m_failedAt m_answer m_isSaved m_lined m_taped m_here m_commandMany]) sz) := by
  refine gOf (cc := cX7_thrown) (maxL := 1) (ret := (some .int)) (by decide) rfl (Nat.le_of_ble_eq_true rfl) ?_
  intro p e s m below meth c ls Q A hQ hx hb hr hml hts hown hlocks hE hA0 hsz hP hD hA hS hl
  have hl : lv_has ls 1 [(0, .ref (a_mo 0))] := hl
  refine lv_aload_n hx hb dX7_thrown_0 rfl (lv_at hl 0 rfl) ?_
  refine va_get (D := g.1) (ci := 11) (v := .int m_thrown) (C := RX7) (T := TX7) (N := 20) hx hb hts inX7_thrown_X7 hown hE.1 hP 0 rfl rfl 8 (by decide) (gW hts 1 (.fieldLink RX7 47 "SnowDispatcherModel" "thrown" "I") rfl) (fun _ h9 => h9) rfl dX7_thrown_1 ?_
  subst hQ
  exact W.iret hx hb hr (gRi0 (wf := _) hA0 hsz hw hP hD hS) hS.2.2 dX7_thrown_4
abbrev rmX7_isIn : Room := { frames := 1, cells := 0, slots := 0, locals := 100 }
set_option maxHeartbeats 4000000 in
set_option maxRecDepth 100000 in
theorem ctX7_isIn (l : Launch) (g : GG) (sz : Nat) (x0 : Int32) (x1 : Int32) (x2 : Int32) {post : Int32 → Prop} (hw : wpX7_isIn x0 x1 x2 post) :
    Met l yX7_isIn wsX7_isIn rmX7_isIn (gPc g sz (List.flatten []) [.int x0, .int x1, .int x2]) (gQi0 post (gB g (List.flatten []) sz (List.flatten [])) (va_A (List.flatten []) sz)) 0 0 (va_A (List.flatten []) sz) := by
  refine gOf (cc := cX7_isIn) (maxL := 3) (ret := (some .boolean)) (by decide) rfl (Nat.le_of_ble_eq_true rfl) ?_
  intro p e s m below meth c ls Q A hQ hx hb hr hml hts hown hlocks hE hA0 hsz hP hD hA hS hl
  have hl : lv_has ls 3 [(0, .int x0), (1, .int x1), (2, .int x2)] := hl
  refine lv_iload_n hx hb dX7_isIn_0 rfl (lv_at hl 0 rfl) ?_
  refine lv_iload_n hx hb dX7_isIn_1 rfl (lv_at hl 1 rfl) ?_
  refine lv_icmp_lt (tgt := 14) hx hb dX7_isIn_2 (by decide) (fun c_2 => ?_) (fun c_2 => ?_)
  · have hw := hw.1 c_2
    refine lv_iconst (v := 0) hx hb dX7_isIn_14 (by decide) ?_
    subst hQ
    exact W.zret (ty := .boolean) hx hb hr (by decide) (gRi0 (wf := _) hA0 hsz hw hP hD hS) hS.2.2 dX7_isIn_15
  · have hw := hw.2 c_2
    refine lv_iload_n hx hb dX7_isIn_5 rfl (lv_at hl 0 rfl) ?_
    refine lv_iload_n hx hb dX7_isIn_6 rfl (lv_at hl 2 rfl) ?_
    refine lv_icmp_gt (tgt := 14) hx hb dX7_isIn_7 (by decide) (fun c_7 => ?_) (fun c_7 => ?_)
    · have hw := hw.1 c_7
      refine lv_iconst (v := 0) hx hb dX7_isIn_14 (by decide) ?_
      subst hQ
      exact W.zret (ty := .boolean) hx hb hr (by decide) (gRi0 (wf := _) hA0 hsz hw hP hD hS) hS.2.2 dX7_isIn_15
    · have hw := hw.2 c_7
      refine lv_iconst (v := 1) hx hb dX7_isIn_10 (by decide) ?_
      refine lv_goto (tgt := 15) hx hb dX7_isIn_11 (by decide) ?_
      subst hQ
      exact W.zret (ty := .boolean) hx hb hr (by decide) (gRi0 (wf := _) hA0 hsz hw hP hD hS) hS.2.2 dX7_isIn_15
abbrev rmX7_lesser : Room := { frames := 1, cells := 0, slots := 0, locals := 100 }
set_option maxHeartbeats 4000000 in
set_option maxRecDepth 100000 in
theorem ctX7_lesser (l : Launch) (g : GG) (sz : Nat) (x0 : Int32) (x1 : Int32) {post : Int32 → Prop} (hw : wpX7_lesser x0 x1 post) :
    Met l yX7_lesser wsX7_lesser rmX7_lesser (gPc g sz (List.flatten []) [.int x0, .int x1]) (gQi0 post (gB g (List.flatten []) sz (List.flatten [])) (va_A (List.flatten []) sz)) 0 0 (va_A (List.flatten []) sz) := by
  refine gOf (cc := cX7_lesser) (maxL := 2) (ret := (some .int)) (by decide) rfl (Nat.le_of_ble_eq_true rfl) ?_
  intro p e s m below meth c ls Q A hQ hx hb hr hml hts hown hlocks hE hA0 hsz hP hD hA hS hl
  have hl : lv_has ls 2 [(0, .int x0), (1, .int x1)] := hl
  refine lv_iload_n hx hb dX7_lesser_0 rfl (lv_at hl 0 rfl) ?_
  refine lv_iload_n hx hb dX7_lesser_1 rfl (lv_at hl 1 rfl) ?_
  refine lv_icmp_ge (tgt := 9) hx hb dX7_lesser_2 (by decide) (fun c_2 => ?_) (fun c_2 => ?_)
  · have hw := hw.1 c_2
    refine lv_iload_n hx hb dX7_lesser_9 rfl (lv_at hl 1 rfl) ?_
    subst hQ
    exact W.iret hx hb hr (gRi0 (wf := _) hA0 hsz hw hP hD hS) hS.2.2 dX7_lesser_10
  · have hw := hw.2 c_2
    refine lv_iload_n hx hb dX7_lesser_5 rfl (lv_at hl 0 rfl) ?_
    refine lv_goto (tgt := 10) hx hb dX7_lesser_6 (by decide) ?_
    subst hQ
    exact W.iret hx hb hr (gRi0 (wf := _) hA0 hsz hw hP hD hS) hS.2.2 dX7_lesser_10
abbrev rmX7_greater : Room := { frames := 1, cells := 0, slots := 0, locals := 100 }
set_option maxHeartbeats 4000000 in
set_option maxRecDepth 100000 in
theorem ctX7_greater (l : Launch) (g : GG) (sz : Nat) (x0 : Int32) (x1 : Int32) {post : Int32 → Prop} (hw : wpX7_greater x0 x1 post) :
    Met l yX7_greater wsX7_greater rmX7_greater (gPc g sz (List.flatten []) [.int x0, .int x1]) (gQi0 post (gB g (List.flatten []) sz (List.flatten [])) (va_A (List.flatten []) sz)) 0 0 (va_A (List.flatten []) sz) := by
  refine gOf (cc := cX7_greater) (maxL := 2) (ret := (some .int)) (by decide) rfl (Nat.le_of_ble_eq_true rfl) ?_
  intro p e s m below meth c ls Q A hQ hx hb hr hml hts hown hlocks hE hA0 hsz hP hD hA hS hl
  have hl : lv_has ls 2 [(0, .int x0), (1, .int x1)] := hl
  refine lv_iload_n hx hb dX7_greater_0 rfl (lv_at hl 0 rfl) ?_
  refine lv_iload_n hx hb dX7_greater_1 rfl (lv_at hl 1 rfl) ?_
  refine lv_icmp_le (tgt := 9) hx hb dX7_greater_2 (by decide) (fun c_2 => ?_) (fun c_2 => ?_)
  · have hw := hw.1 c_2
    refine lv_iload_n hx hb dX7_greater_9 rfl (lv_at hl 1 rfl) ?_
    subst hQ
    exact W.iret hx hb hr (gRi0 (wf := _) hA0 hsz hw hP hD hS) hS.2.2 dX7_greater_10
  · have hw := hw.2 c_2
    refine lv_iload_n hx hb dX7_greater_5 rfl (lv_at hl 0 rfl) ?_
    refine lv_goto (tgt := 10) hx hb dX7_greater_6 (by decide) ?_
    subst hQ
    exact W.iret hx hb hr (gRi0 (wf := _) hA0 hsz hw hP hD hS) hS.2.2 dX7_greater_10
abbrev rmX7_copies : Room := { frames := 1, cells := 0, slots := 0, locals := 100 }
set_option maxHeartbeats 4000000 in
set_option maxRecDepth 100000 in
theorem ctX7_copies (l : Launch) (g : GG) (a_fr : Nat → Nat) (a_tt : Nat → Nat) (sz : Nat) (v_n : Nat) (v_f : Nat → Int32) (w_n : Nat) (w_f : Nat → Int32) (x1 : Int32) (x3 : Int32) {post : (Nat → Int32) → Prop} (hw : wpX7_copies x1 x3 v_n v_f w_n w_f post) :
    Met l yX7_copies wsX7_copies rmX7_copies (gPc g sz (List.flatten [kAr g a_fr v_n v_f, kAr g a_tt w_n w_f]) [.ref (a_fr 0), .int x1, .ref (a_tt 0), .int x3]) (gQv1 post (fun u1 => gB g (List.flatten [kAr g a_fr v_n v_f, kAr g a_tt w_n w_f]) sz (List.flatten [kAr g a_fr v_n v_f, kAr g a_tt w_n u1])) (va_A (List.flatten [kAr g a_fr v_n v_f, kAr g a_tt w_n w_f]) sz)) 0 0 (va_A (List.flatten [kAr g a_fr v_n v_f, kAr g a_tt w_n w_f]) sz) := by
  refine gOf (cc := cX7_copies) (maxL := 5) (ret := none) (by decide) rfl (Nat.le_of_ble_eq_true rfl) ?_
  intro p e s m below meth c ls Q A hQ hx hb hr hml hts hown hlocks hE hA0 hsz hP hD hA hS hl
  have hl : lv_has ls 5 [(0, .ref (a_fr 0)), (1, .int x1), (2, .ref (a_tt 0)), (3, .int x3)] := hl
  have L3 : ∀ (n : Nat) (x4_3 : Int32) (w_f_3 : Nat → Int32) (H : Heap) (locs : List Loc) (ls : Array Slot), wpX7_copies_L3 x1 x3 v_n v_f w_n post n x4_3 w_f_3 → va_P g.1 vwCl (List.flatten [kAr g a_fr v_n v_f, kAr g a_tt w_n w_f_3]) H → va_D A (List.flatten [kAr g a_fr v_n v_f, kAr g a_tt w_n w_f_3]) → va_S A s.heap H locs → lv_has ls 5 [(0, .ref (a_fr 0)), (1, .int x1), (2, .ref (a_tt 0)), (3, .int x3), (4, .int x4_3)] → W p l e rmX7_copies s m (([.ref (a_fr 0), .int x1, .ref (a_tt 0), .int x3] : List Value).toArray) below meth c H locs 0 0 Q (F0 m 3 ls []) := by
    intro n_3
    induction n_3 with
    | zero => intro x4_3 w_f_3 H locs ls hw; exact False.elim hw
    | succ n_3 ih_3 =>
      intro x4_3 w_f_3 H locs ls hw hP hD hS hl
      refine lv_iload hx hb dX7_copies_3 (lv_at hl 4 rfl) ?_
      refine lv_sipush (v := 130) hx hb dX7_copies_5 (by decide) ?_
      refine lv_icmp_ge (tgt := 29) hx hb dX7_copies_8 (by decide) (fun c_8 => ?_) (fun c_8 => ?_)
      · have hw := hw.1 c_8
        subst hQ
        exact W.vret hx hb hr (gRv1 (c1 := w_f_3) (wf := _) hA0 hsz hw hP hD hS) hS.2.2 dX7_copies_29
      · have hw := hw.2 c_8
        refine lv_aload_n hx hb dX7_copies_11 rfl (lv_at hl 2 rfl) ?_
        refine lv_iload_n hx hb dX7_copies_12 rfl (lv_at hl 3 rfl) ?_
        refine lv_iload hx hb dX7_copies_13 (lv_at hl 4 rfl) ?_
        refine lv_iadd hx hb dX7_copies_15 ?_
        refine lv_aload_n hx hb dX7_copies_16 rfl (lv_at hl 0 rfl) ?_
        refine lv_iload_n hx hb dX7_copies_17 rfl (lv_at hl 1 rfl) ?_
        refine lv_iload hx hb dX7_copies_18 (lv_at hl 4 rfl) ?_
        refine lv_iadd hx hb dX7_copies_20 ?_
        have h1 := hw.1
        have hw := hw.2
        refine va_iald hx hb hE.1 hP 0 0 rfl rfl h1 dX7_copies_21 ?_
        have h2 := hw.1
        have hw := hw.2
        refine va_iast hx hb hE.1 hP hD hS 1 0 rfl rfl h2 dX7_copies_22 (fun H locs hP hD hS => ?_)
        have hP : va_P g.1 vwCl (List.flatten [kAr g a_fr v_n v_f, kAr g a_tt w_n (upd w_f_3 (x3 + x4_3).toNatClampNeg (v_f (x1 + x4_3).toNatClampNeg))]) H := hP
        have hD : va_D A (List.flatten [kAr g a_fr v_n v_f, kAr g a_tt w_n (upd w_f_3 (x3 + x4_3).toNatClampNeg (v_f (x1 + x4_3).toNatClampNeg))]) := hD
        refine lv_iinc (v := (x4_3 + 1)) (lv' := [(4, .int (x4_3 + 1)), (0, .ref (a_fr 0)), (1, .int x1), (2, .ref (a_tt 0)), (3, .int x3)]) hx hb dX7_copies_23 hl (k := 4) rfl rfl (by decide) rfl (fun ls hl => ?_)
        refine lv_goto (tgt := 3) hx hb dX7_copies_26 (by decide) ?_
        exact ih_3 (x4_3 + 1) (upd w_f_3 (x3 + x4_3).toNatClampNeg (v_f (x1 + x4_3).toNatClampNeg)) _ _ _ hw hP hD hS (lv_sub hl [1, 2, 3, 4, 0] rfl)
  refine lv_iconst (v := 0) hx hb dX7_copies_0 (by decide) ?_
  refine lv_istore (lv' := [(4, .int 0), (0, .ref (a_fr 0)), (1, .int x1), (2, .ref (a_tt 0)), (3, .int x3)]) hx hb dX7_copies_1 hl (by decide) rfl (fun ls hl => ?_)
  obtain ⟨n, hw⟩ := hw
  exact L3 n 0 w_f _ _ _ hw hP hD hS (lv_sub hl [1, 2, 3, 4, 0] rfl)
abbrev rmX7_keeps : Room := { frames := 2, cells := 0, slots := 0, locals := 125 }
set_option maxRecDepth 20000 in
theorem inX7_keeps_X7 : ∀ w ∈ wsX70, w ∈ wsX7_keeps := by decide +kernel
set_option maxHeartbeats 4000000 in
set_option maxRecDepth 100000 in
theorem ctX7_keeps (l : Launch) (g : GG) (a_mo : Nat → Nat) (a_ms : Nat → Nat) (a_mwas : Nat → Nat) (a_mtried : Nat → Nat) (a_msaved : Nat → Nat) (a_mpast : Nat → Nat) (a_mfar : Nat → Nat) (a_mdrift : Nat → Nat) (a_mline : Nat → Nat) (a_mtape : Nat → Nat) (a_mcommands : Nat → Nat) (sz : Nat) (m_changes : Int32) (m_thrown : Int32) (m_errorAt : Int32) (m_failedAt : Int32) (m_answer : Int32) (m_isSaved : Int32) (m_lined : Int32) (m_taped : Int32) (m_here : Int32) (m_commandMany : Int32) (m_s : Nat → Int32) (m_was : Nat → Int32) {post : Int32 → (Nat → Int32) → Prop} (hw : wpX7_keeps m_thrown m_s m_was post) :
    Met l yX7_keeps wsX7_keeps rmX7_keeps (gPc g sz (List.flatten [kMo g a_mo a_ms a_mwas a_mtried a_msaved a_mpast a_mfar a_mdrift a_mline a_mtape a_mcommands m_changes m_thrown m_errorAt m_failedAt m_answer m_isSaved m_lined m_taped m_here m_commandMany, kAr g a_ms 130 m_s, kAr g a_mwas 130 m_was]) [.ref (a_mo 0)]) (gQv2 post (fun u1 u2 => gB g (List.flatten [kMo g a_mo a_ms a_mwas a_mtried a_msaved a_mpast a_mfar a_mdrift a_mline a_mtape a_mcommands m_changes m_thrown m_errorAt m_failedAt m_answer m_isSaved m_lined m_taped m_here m_commandMany, kAr g a_ms 130 m_s, kAr g a_mwas 130 m_was]) sz (List.flatten [kMo g a_mo a_ms a_mwas a_mtried a_msaved a_mpast a_mfar a_mdrift a_mline a_mtape a_mcommands m_changes u1 m_errorAt m_failedAt m_answer m_isSaved m_lined m_taped m_here m_commandMany, kAr g a_ms 130 m_s, kAr g a_mwas 130 u2])) (va_A (List.flatten [kMo g a_mo a_ms a_mwas a_mtried a_msaved a_mpast a_mfar a_mdrift a_mline a_mtape a_mcommands m_changes m_thrown m_errorAt m_failedAt m_answer m_isSaved m_lined m_taped m_here m_commandMany, kAr g a_ms 130 m_s, kAr g a_mwas 130 m_was]) sz)) 0 0 (va_A (List.flatten [kMo g a_mo a_ms a_mwas a_mtried a_msaved a_mpast a_mfar a_mdrift a_mline a_mtape a_mcommands m_changes m_thrown m_errorAt m_failedAt m_answer m_isSaved m_lined m_taped m_here m_commandMany, kAr g a_ms 130 m_s, kAr g a_mwas 130 m_was]) sz) := by
  refine gOf (cc := cX7_keeps) (maxL := 1) (ret := none) (by decide) rfl (Nat.le_of_ble_eq_true rfl) ?_
  intro p e s m below meth c ls Q A hQ hx hb hr hml hts hown hlocks hE hA0 hsz hP hD hA hS hl
  have hl : lv_has ls 1 [(0, .ref (a_mo 0))] := hl
  refine lv_aload_n hx hb dX7_keeps_0 rfl (lv_at hl 0 rfl) ?_
  refine va_get (D := g.1) (ci := 11) (v := .ref (a_ms 0)) (C := RX7) (T := TX7) (N := 20) hx hb hts inX7_keeps_X7 hown hE.1 hP 0 rfl rfl 0 (by decide) (gW hts 1 (.fieldLink RX7 9 "SnowDispatcherModel" "s" "[I") rfl) (fun _ h9 => h9) rfl dX7_keeps_1 ?_
  refine lv_iconst (v := 0) hx hb dX7_keeps_4 (by decide) ?_
  refine lv_aload_n hx hb dX7_keeps_5 rfl (lv_at hl 0 rfl) ?_
  refine va_get (D := g.1) (ci := 11) (v := .ref (a_mwas 0)) (C := RX7) (T := TX7) (N := 20) hx hb hts inX7_keeps_X7 hown hE.1 hP 0 rfl rfl 1 (by decide) (gW hts 2 (.fieldLink RX7 13 "SnowDispatcherModel" "was" "[I") rfl) (fun _ h9 => h9) rfl dX7_keeps_6 ?_
  refine lv_iconst (v := 0) hx hb dX7_keeps_9 (by decide) ?_
  refine gCv1 (gRunS (As := [.ref (a_ms 0), .int 0, .ref (a_mwas 0), .int 0]) (rest := []) ⟨hx, hb, hml, hown, hts⟩ (ctX7_copies l g a_ms a_mwas _ 130 m_s 130 m_was 0 0 hw) (va_cwS 4 hts gX7_keeps_X7_copies rfl rfl rfl (by decide +kernel) ⟨Nat.le_of_ble_eq_true rfl, Nat.le_of_ble_eq_true rfl⟩) hE (gSub hP [1, 2]) (gDSub hD [1, 2] rfl) rfl rfl hl.1 rfl (lv_room (Nat.le_of_ble_eq_true rfl)) dX7_keeps_10 ⟨Nat.le_of_ble_eq_true rfl, Nat.le_of_ble_eq_true rfl⟩) hP hD hS hA [1, 2] rfl (fun _ => rfl) rfl (fun m_was_v1 H locs hw hP hD hS => ?_)
  have hP : va_P g.1 vwCl (List.flatten [kMo g a_mo a_ms a_mwas a_mtried a_msaved a_mpast a_mfar a_mdrift a_mline a_mtape a_mcommands m_changes m_thrown m_errorAt m_failedAt m_answer m_isSaved m_lined m_taped m_here m_commandMany, kAr g a_ms 130 m_s, kAr g a_mwas 130 m_was_v1]) H := hP
  have hD : va_D A (List.flatten [kMo g a_mo a_ms a_mwas a_mtried a_msaved a_mpast a_mfar a_mdrift a_mline a_mtape a_mcommands m_changes m_thrown m_errorAt m_failedAt m_answer m_isSaved m_lined m_taped m_here m_commandMany, kAr g a_ms 130 m_s, kAr g a_mwas 130 m_was_v1]) := hD
  refine lv_aload_n hx hb dX7_keeps_13 rfl (lv_at hl 0 rfl) ?_
  refine lv_iconst (v := 0) hx hb dX7_keeps_14 (by decide) ?_
  refine va_put (D := g.1) (ci := 11) (v := .int 0) (ty := .int) (C := RX7) (T := TX7) (N := 20) hx hb hts inX7_keeps_X7 tyX7 tyX7_ok nmX7 hown hE.1 hP hD hS 0 rfl rfl 8 (by decide) (gW hts 3 (.fieldLink RX7 47 "SnowDispatcherModel" "thrown" "I") rfl) (fun _ h9 => h9) rfl (by decide +kernel) rfl rfl (Nat.le_of_ble_eq_true rfl) dX7_keeps_15 (fun H locs hP hD hS => ?_)
  have hP : va_P g.1 vwCl (List.flatten [kMo g a_mo a_ms a_mwas a_mtried a_msaved a_mpast a_mfar a_mdrift a_mline a_mtape a_mcommands m_changes 0 m_errorAt m_failedAt m_answer m_isSaved m_lined m_taped m_here m_commandMany, kAr g a_ms 130 m_s, kAr g a_mwas 130 m_was_v1]) H := hP
  have hD : va_D A (List.flatten [kMo g a_mo a_ms a_mwas a_mtried a_msaved a_mpast a_mfar a_mdrift a_mline a_mtape a_mcommands m_changes 0 m_errorAt m_failedAt m_answer m_isSaved m_lined m_taped m_here m_commandMany, kAr g a_ms 130 m_s, kAr g a_mwas 130 m_was_v1]) := hD
  subst hQ
  exact W.vret hx hb hr (gRv2 (c1 := 0) (c2 := m_was_v1) (wf := _) hA0 hsz hw hP hD hS) hS.2.2 dX7_keeps_18
abbrev rmX7_copies_same : Room := { frames := 1, cells := 0, slots := 0, locals := 100 }
set_option maxHeartbeats 4000000 in
set_option maxRecDepth 100000 in
theorem ctX7_copies_same (l : Launch) (g : GG) (a_fr : Nat → Nat) (sz : Nat) (v_n : Nat) (v_f : Nat → Int32) (x1 : Int32) (x3 : Int32) {post : (Nat → Int32) → Prop} (hw : wpX7_copies_same x1 x3 v_n v_f post) :
    Met l yX7_copies wsX7_copies rmX7_copies_same (gPc g sz (List.flatten [kAr g a_fr v_n v_f]) [.ref (a_fr 0), .int x1, .ref (a_fr 0), .int x3]) (gQv1 post (fun u1 => gB g (List.flatten [kAr g a_fr v_n v_f]) sz (List.flatten [kAr g a_fr v_n u1])) (va_A (List.flatten [kAr g a_fr v_n v_f]) sz)) 0 0 (va_A (List.flatten [kAr g a_fr v_n v_f]) sz) := by
  refine gOf (cc := cX7_copies) (maxL := 5) (ret := none) (by decide) rfl (Nat.le_of_ble_eq_true rfl) ?_
  intro p e s m below meth c ls Q A hQ hx hb hr hml hts hown hlocks hE hA0 hsz hP hD hA hS hl
  have hl : lv_has ls 5 [(0, .ref (a_fr 0)), (1, .int x1), (2, .ref (a_fr 0)), (3, .int x3)] := hl
  have L3 : ∀ (n : Nat) (x4_3 : Int32) (v_f_3 : Nat → Int32) (H : Heap) (locs : List Loc) (ls : Array Slot), wpX7_copies_same_L3 x1 x3 v_n post n x4_3 v_f_3 → va_P g.1 vwCl (List.flatten [kAr g a_fr v_n v_f_3]) H → va_D A (List.flatten [kAr g a_fr v_n v_f_3]) → va_S A s.heap H locs → lv_has ls 5 [(0, .ref (a_fr 0)), (1, .int x1), (2, .ref (a_fr 0)), (3, .int x3), (4, .int x4_3)] → W p l e rmX7_copies_same s m (([.ref (a_fr 0), .int x1, .ref (a_fr 0), .int x3] : List Value).toArray) below meth c H locs 0 0 Q (F0 m 3 ls []) := by
    intro n_3
    induction n_3 with
    | zero => intro x4_3 v_f_3 H locs ls hw; exact False.elim hw
    | succ n_3 ih_3 =>
      intro x4_3 v_f_3 H locs ls hw hP hD hS hl
      refine lv_iload hx hb dX7_copies_3 (lv_at hl 4 rfl) ?_
      refine lv_sipush (v := 130) hx hb dX7_copies_5 (by decide) ?_
      refine lv_icmp_ge (tgt := 29) hx hb dX7_copies_8 (by decide) (fun c_8 => ?_) (fun c_8 => ?_)
      · have hw := hw.1 c_8
        subst hQ
        exact W.vret hx hb hr (gRv1 (c1 := v_f_3) (wf := _) hA0 hsz hw hP hD hS) hS.2.2 dX7_copies_29
      · have hw := hw.2 c_8
        refine lv_aload_n hx hb dX7_copies_11 rfl (lv_at hl 2 rfl) ?_
        refine lv_iload_n hx hb dX7_copies_12 rfl (lv_at hl 3 rfl) ?_
        refine lv_iload hx hb dX7_copies_13 (lv_at hl 4 rfl) ?_
        refine lv_iadd hx hb dX7_copies_15 ?_
        refine lv_aload_n hx hb dX7_copies_16 rfl (lv_at hl 0 rfl) ?_
        refine lv_iload_n hx hb dX7_copies_17 rfl (lv_at hl 1 rfl) ?_
        refine lv_iload hx hb dX7_copies_18 (lv_at hl 4 rfl) ?_
        refine lv_iadd hx hb dX7_copies_20 ?_
        have h1 := hw.1
        have hw := hw.2
        refine va_iald hx hb hE.1 hP 0 0 rfl rfl h1 dX7_copies_21 ?_
        have h2 := hw.1
        have hw := hw.2
        refine va_iast hx hb hE.1 hP hD hS 0 0 rfl rfl h2 dX7_copies_22 (fun H locs hP hD hS => ?_)
        have hP : va_P g.1 vwCl (List.flatten [kAr g a_fr v_n (upd v_f_3 (x3 + x4_3).toNatClampNeg (v_f_3 (x1 + x4_3).toNatClampNeg))]) H := hP
        have hD : va_D A (List.flatten [kAr g a_fr v_n (upd v_f_3 (x3 + x4_3).toNatClampNeg (v_f_3 (x1 + x4_3).toNatClampNeg))]) := hD
        refine lv_iinc (v := (x4_3 + 1)) (lv' := [(4, .int (x4_3 + 1)), (0, .ref (a_fr 0)), (1, .int x1), (2, .ref (a_fr 0)), (3, .int x3)]) hx hb dX7_copies_23 hl (k := 4) rfl rfl (by decide) rfl (fun ls hl => ?_)
        refine lv_goto (tgt := 3) hx hb dX7_copies_26 (by decide) ?_
        exact ih_3 (x4_3 + 1) (upd v_f_3 (x3 + x4_3).toNatClampNeg (v_f_3 (x1 + x4_3).toNatClampNeg)) _ _ _ hw hP hD hS (lv_sub hl [1, 2, 3, 4, 0] rfl)
  refine lv_iconst (v := 0) hx hb dX7_copies_0 (by decide) ?_
  refine lv_istore (lv' := [(4, .int 0), (0, .ref (a_fr 0)), (1, .int x1), (2, .ref (a_fr 0)), (3, .int x3)]) hx hb dX7_copies_1 hl (by decide) rfl (fun ls hl => ?_)
  obtain ⟨n, hw⟩ := hw
  exact L3 n 0 v_f _ _ _ hw hP hD hS (lv_sub hl [1, 2, 3, 4, 0] rfl)
abbrev rmX7_ends : Room := { frames := 2, cells := 0, slots := 0, locals := 125 }
set_option maxRecDepth 20000 in
theorem inX7_ends_X7 : ∀ w ∈ wsX70, w ∈ wsX7_ends := by decide +kernel
set_option maxHeartbeats 4000000 in
set_option maxRecDepth 100000 in
theorem ctX7_ends (l : Launch) (g : GG) (a_mo : Nat → Nat) (a_ms : Nat → Nat) (a_mwas : Nat → Nat) (a_mtried : Nat → Nat) (a_msaved : Nat → Nat) (a_mpast : Nat → Nat) (a_mfar : Nat → Nat) (a_mdrift : Nat → Nat) (a_mline : Nat → Nat) (a_mtape : Nat → Nat) (a_mcommands : Nat → Nat) (sz : Nat) (m_changes : Int32) (m_thrown : Int32) (m_errorAt : Int32) (m_failedAt : Int32) (m_answer : Int32) (m_isSaved : Int32) (m_lined : Int32) (m_taped : Int32) (m_here : Int32) (m_commandMany : Int32) (m_was : Nat → Int32) (m_past : Nat → Int32) (x1 : Int32) {post : Int32 → Int32 → (Nat → Int32) → Prop} (hw : wpX7_ends x1 m_changes m_thrown m_was m_past post) :
    Met l yX7_ends wsX7_ends rmX7_ends (gPc g sz (List.flatten [kMo g a_mo a_ms a_mwas a_mtried a_msaved a_mpast a_mfar a_mdrift a_mline a_mtape a_mcommands m_changes m_thrown m_errorAt m_failedAt m_answer m_isSaved m_lined m_taped m_here m_commandMany, kAr g a_mwas 130 m_was, kAr g a_mpast 1040 m_past]) [.ref (a_mo 0), .int x1]) (gQi2 post (fun u1 u2 => gB g (List.flatten [kMo g a_mo a_ms a_mwas a_mtried a_msaved a_mpast a_mfar a_mdrift a_mline a_mtape a_mcommands m_changes m_thrown m_errorAt m_failedAt m_answer m_isSaved m_lined m_taped m_here m_commandMany, kAr g a_mwas 130 m_was, kAr g a_mpast 1040 m_past]) sz (List.flatten [kMo g a_mo a_ms a_mwas a_mtried a_msaved a_mpast a_mfar a_mdrift a_mline a_mtape a_mcommands u1 m_thrown m_errorAt m_failedAt m_answer m_isSaved m_lined m_taped m_here m_commandMany, kAr g a_mwas 130 m_was, kAr g a_mpast 1040 u2])) (va_A (List.flatten [kMo g a_mo a_ms a_mwas a_mtried a_msaved a_mpast a_mfar a_mdrift a_mline a_mtape a_mcommands m_changes m_thrown m_errorAt m_failedAt m_answer m_isSaved m_lined m_taped m_here m_commandMany, kAr g a_mwas 130 m_was, kAr g a_mpast 1040 m_past]) sz)) 0 0 (va_A (List.flatten [kMo g a_mo a_ms a_mwas a_mtried a_msaved a_mpast a_mfar a_mdrift a_mline a_mtape a_mcommands m_changes m_thrown m_errorAt m_failedAt m_answer m_isSaved m_lined m_taped m_here m_commandMany, kAr g a_mwas 130 m_was, kAr g a_mpast 1040 m_past]) sz) := by
  refine gOf (cc := cX7_ends) (maxL := 3) (ret := (some .int)) (by decide) rfl (Nat.le_of_ble_eq_true rfl) ?_
  intro p e s m below meth c ls Q A hQ hx hb hr hml hts hown hlocks hE hA0 hsz hP hD hA hS hl
  have hl : lv_has ls 3 [(0, .ref (a_mo 0)), (1, .int x1)] := hl
  have J65 : ∀ (m_changes_65 : Int32) (m_past_65 : Nat → Int32) (H : Heap) (locs : List Loc) (ls : Array Slot), wpX7_ends_L65 x1 m_thrown m_was post m_changes_65 m_past_65 → va_P g.1 vwCl (List.flatten [kMo g a_mo a_ms a_mwas a_mtried a_msaved a_mpast a_mfar a_mdrift a_mline a_mtape a_mcommands m_changes_65 m_thrown m_errorAt m_failedAt m_answer m_isSaved m_lined m_taped m_here m_commandMany, kAr g a_mwas 130 m_was, kAr g a_mpast 1040 m_past_65]) H → va_D A (List.flatten [kMo g a_mo a_ms a_mwas a_mtried a_msaved a_mpast a_mfar a_mdrift a_mline a_mtape a_mcommands m_changes_65 m_thrown m_errorAt m_failedAt m_answer m_isSaved m_lined m_taped m_here m_commandMany, kAr g a_mwas 130 m_was, kAr g a_mpast 1040 m_past_65]) → va_S A s.heap H locs → lv_has ls 3 [(0, .ref (a_mo 0)), (1, .int x1)] → W p l e rmX7_ends s m (([.ref (a_mo 0), .int x1] : List Value).toArray) below meth c H locs 0 0 Q (F0 m 65 ls []) := by
    intro m_changes_65 m_past_65 H locs ls hw hP hD hS hl
    refine lv_aload_n hx hb dX7_ends_65 rfl (lv_at hl 0 rfl) ?_
    refine va_get (D := g.1) (ci := 11) (v := .ref (a_mwas 0)) (C := RX7) (T := TX7) (N := 20) hx hb hts inX7_ends_X7 hown hE.1 hP 0 rfl rfl 1 (by decide) (gW hts 4 (.fieldLink RX7 13 "SnowDispatcherModel" "was" "[I") rfl) (fun _ h9 => h9) rfl dX7_ends_66 ?_
    refine lv_iconst (v := 0) hx hb dX7_ends_69 (by decide) ?_
    refine lv_aload_n hx hb dX7_ends_70 rfl (lv_at hl 0 rfl) ?_
    refine va_get (D := g.1) (ci := 11) (v := .ref (a_mpast 0)) (C := RX7) (T := TX7) (N := 20) hx hb hts inX7_ends_X7 hown hE.1 hP 0 rfl rfl 4 (by decide) (gW hts 3 (.fieldLink RX7 22 "SnowDispatcherModel" "past" "[I") rfl) (fun _ h9 => h9) rfl dX7_ends_71 ?_
    refine lv_sipush (v := 130) hx hb dX7_ends_74 (by decide) ?_
    refine lv_aload_n hx hb dX7_ends_77 rfl (lv_at hl 0 rfl) ?_
    refine va_get (D := g.1) (ci := 11) (v := .int m_changes_65) (C := RX7) (T := TX7) (N := 20) hx hb hts inX7_ends_X7 hown hE.1 hP 0 rfl rfl 7 (by decide) (gW hts 2 (.fieldLink RX7 54 "SnowDispatcherModel" "changes" "I") rfl) (fun _ h9 => h9) rfl dX7_ends_78 ?_
    refine lv_imul hx hb dX7_ends_81 ?_
    refine gCv1 (gRunS (As := [.ref (a_mwas 0), .int 0, .ref (a_mpast 0), .int (130 * m_changes_65)]) (rest := []) ⟨hx, hb, hml, hown, hts⟩ (ctX7_copies l g a_mwas a_mpast _ 130 m_was 1040 m_past_65 0 (130 * m_changes_65) hw) (va_cwS 4 hts gX7_ends_X7_copies rfl rfl rfl (by decide +kernel) ⟨Nat.le_of_ble_eq_true rfl, Nat.le_of_ble_eq_true rfl⟩) hE (gSub hP [1, 2]) (gDSub hD [1, 2] rfl) rfl rfl hl.1 rfl (lv_room (Nat.le_of_ble_eq_true rfl)) dX7_ends_82 ⟨Nat.le_of_ble_eq_true rfl, Nat.le_of_ble_eq_true rfl⟩) hP hD hS hA [1, 2] rfl (fun _ => rfl) rfl (fun m_past_v1 H locs hw hP hD hS => ?_)
    have hP : va_P g.1 vwCl (List.flatten [kMo g a_mo a_ms a_mwas a_mtried a_msaved a_mpast a_mfar a_mdrift a_mline a_mtape a_mcommands m_changes_65 m_thrown m_errorAt m_failedAt m_answer m_isSaved m_lined m_taped m_here m_commandMany, kAr g a_mwas 130 m_was, kAr g a_mpast 1040 m_past_v1]) H := hP
    have hD : va_D A (List.flatten [kMo g a_mo a_ms a_mwas a_mtried a_msaved a_mpast a_mfar a_mdrift a_mline a_mtape a_mcommands m_changes_65 m_thrown m_errorAt m_failedAt m_answer m_isSaved m_lined m_taped m_here m_commandMany, kAr g a_mwas 130 m_was, kAr g a_mpast 1040 m_past_v1]) := hD
    refine lv_aload_n hx hb dX7_ends_85 rfl (lv_at hl 0 rfl) ?_
    refine lv_dup hx hb dX7_ends_86 rfl ?_
    refine va_get (D := g.1) (ci := 11) (v := .int m_changes_65) (C := RX7) (T := TX7) (N := 20) hx hb hts inX7_ends_X7 hown hE.1 hP 0 rfl rfl 7 (by decide) (gW hts 2 (.fieldLink RX7 54 "SnowDispatcherModel" "changes" "I") rfl) (fun _ h9 => h9) rfl dX7_ends_87 ?_
    refine lv_iconst (v := 1) hx hb dX7_ends_90 (by decide) ?_
    refine lv_iadd hx hb dX7_ends_91 ?_
    refine va_put (D := g.1) (ci := 11) (v := .int (m_changes_65 + 1)) (ty := .int) (C := RX7) (T := TX7) (N := 20) hx hb hts inX7_ends_X7 tyX7 tyX7_ok nmX7 hown hE.1 hP hD hS 0 rfl rfl 7 (by decide) (gW hts 2 (.fieldLink RX7 54 "SnowDispatcherModel" "changes" "I") rfl) (fun _ h9 => h9) rfl (by decide +kernel) rfl rfl (Nat.le_of_ble_eq_true rfl) dX7_ends_92 (fun H locs hP hD hS => ?_)
    have hP : va_P g.1 vwCl (List.flatten [kMo g a_mo a_ms a_mwas a_mtried a_msaved a_mpast a_mfar a_mdrift a_mline a_mtape a_mcommands (m_changes_65 + 1) m_thrown m_errorAt m_failedAt m_answer m_isSaved m_lined m_taped m_here m_commandMany, kAr g a_mwas 130 m_was, kAr g a_mpast 1040 m_past_v1]) H := hP
    have hD : va_D A (List.flatten [kMo g a_mo a_ms a_mwas a_mtried a_msaved a_mpast a_mfar a_mdrift a_mline a_mtape a_mcommands (m_changes_65 + 1) m_thrown m_errorAt m_failedAt m_answer m_isSaved m_lined m_taped m_here m_commandMany, kAr g a_mwas 130 m_was, kAr g a_mpast 1040 m_past_v1]) := hD
    refine lv_iload_n hx hb dX7_ends_95 rfl (lv_at hl 1 rfl) ?_
    subst hQ
    exact W.iret hx hb hr (gRi2 (c1 := (m_changes_65 + 1)) (c2 := m_past_v1) (wf := _) hA0 hsz hw hP hD hS) hS.2.2 dX7_ends_96
  have L20 : ∀ (n : Nat) (m_changes_20 : Int32) (x2_20 : Int32) (m_past_20 : Nat → Int32) (H : Heap) (locs : List Loc) (ls : Array Slot), wpX7_ends_L20 x1 m_thrown m_was m_changes_20 post n x2_20 m_past_20 → va_P g.1 vwCl (List.flatten [kMo g a_mo a_ms a_mwas a_mtried a_msaved a_mpast a_mfar a_mdrift a_mline a_mtape a_mcommands m_changes_20 m_thrown m_errorAt m_failedAt m_answer m_isSaved m_lined m_taped m_here m_commandMany, kAr g a_mwas 130 m_was, kAr g a_mpast 1040 m_past_20]) H → va_D A (List.flatten [kMo g a_mo a_ms a_mwas a_mtried a_msaved a_mpast a_mfar a_mdrift a_mline a_mtape a_mcommands m_changes_20 m_thrown m_errorAt m_failedAt m_answer m_isSaved m_lined m_taped m_here m_commandMany, kAr g a_mwas 130 m_was, kAr g a_mpast 1040 m_past_20]) → va_S A s.heap H locs → lv_has ls 3 [(0, .ref (a_mo 0)), (1, .int x1), (2, .int x2_20)] → W p l e rmX7_ends s m (([.ref (a_mo 0), .int x1] : List Value).toArray) below meth c H locs 0 0 Q (F0 m 20 ls []) := by
    intro n_20
    induction n_20 with
    | zero => intro m_changes_20 x2_20 m_past_20 H locs ls hw; exact False.elim hw
    | succ n_20 ih_20 =>
      intro m_changes_20 x2_20 m_past_20 H locs ls hw hP hD hS hl
      refine lv_iload_n hx hb dX7_ends_20 rfl (lv_at hl 2 rfl) ?_
      refine lv_bipush (v := 8) hx hb dX7_ends_21 (by decide) ?_
      refine lv_icmp_ge (tgt := 55) hx hb dX7_ends_23 (by decide) (fun c_23 => ?_) (fun c_23 => ?_)
      · have hw := hw.1 c_23
        refine lv_aload_n hx hb dX7_ends_55 rfl (lv_at hl 0 rfl) ?_
        refine lv_dup hx hb dX7_ends_56 rfl ?_
        refine va_get (D := g.1) (ci := 11) (v := .int m_changes_20) (C := RX7) (T := TX7) (N := 20) hx hb hts inX7_ends_X7 hown hE.1 hP 0 rfl rfl 7 (by decide) (gW hts 2 (.fieldLink RX7 54 "SnowDispatcherModel" "changes" "I") rfl) (fun _ h9 => h9) rfl dX7_ends_57 ?_
        refine lv_iconst (v := 1) hx hb dX7_ends_60 (by decide) ?_
        refine lv_isub hx hb dX7_ends_61 ?_
        refine va_put (D := g.1) (ci := 11) (v := .int (m_changes_20 - 1)) (ty := .int) (C := RX7) (T := TX7) (N := 20) hx hb hts inX7_ends_X7 tyX7 tyX7_ok nmX7 hown hE.1 hP hD hS 0 rfl rfl 7 (by decide) (gW hts 2 (.fieldLink RX7 54 "SnowDispatcherModel" "changes" "I") rfl) (fun _ h9 => h9) rfl (by decide +kernel) rfl rfl (Nat.le_of_ble_eq_true rfl) dX7_ends_62 (fun H locs hP hD hS => ?_)
        have hP : va_P g.1 vwCl (List.flatten [kMo g a_mo a_ms a_mwas a_mtried a_msaved a_mpast a_mfar a_mdrift a_mline a_mtape a_mcommands (m_changes_20 - 1) m_thrown m_errorAt m_failedAt m_answer m_isSaved m_lined m_taped m_here m_commandMany, kAr g a_mwas 130 m_was, kAr g a_mpast 1040 m_past_20]) H := hP
        have hD : va_D A (List.flatten [kMo g a_mo a_ms a_mwas a_mtried a_msaved a_mpast a_mfar a_mdrift a_mline a_mtape a_mcommands (m_changes_20 - 1) m_thrown m_errorAt m_failedAt m_answer m_isSaved m_lined m_taped m_here m_commandMany, kAr g a_mwas 130 m_was, kAr g a_mpast 1040 m_past_20]) := hD
        exact J65 (m_changes_20 - 1) m_past_20 _ _ _ hw hP hD hS (lv_sub hl [0, 1] rfl)
      · have hw := hw.2 c_23
        refine lv_aload_n hx hb dX7_ends_26 rfl (lv_at hl 0 rfl) ?_
        refine va_get (D := g.1) (ci := 11) (v := .ref (a_mpast 0)) (C := RX7) (T := TX7) (N := 20) hx hb hts inX7_ends_X7 hown hE.1 hP 0 rfl rfl 4 (by decide) (gW hts 3 (.fieldLink RX7 22 "SnowDispatcherModel" "past" "[I") rfl) (fun _ h9 => h9) rfl dX7_ends_27 ?_
        refine lv_sipush (v := 130) hx hb dX7_ends_30 (by decide) ?_
        refine lv_iload_n hx hb dX7_ends_33 rfl (lv_at hl 2 rfl) ?_
        refine lv_imul hx hb dX7_ends_34 ?_
        refine lv_aload_n hx hb dX7_ends_35 rfl (lv_at hl 0 rfl) ?_
        refine va_get (D := g.1) (ci := 11) (v := .ref (a_mpast 0)) (C := RX7) (T := TX7) (N := 20) hx hb hts inX7_ends_X7 hown hE.1 hP 0 rfl rfl 4 (by decide) (gW hts 3 (.fieldLink RX7 22 "SnowDispatcherModel" "past" "[I") rfl) (fun _ h9 => h9) rfl dX7_ends_36 ?_
        refine lv_sipush (v := 130) hx hb dX7_ends_39 (by decide) ?_
        refine lv_iload_n hx hb dX7_ends_42 rfl (lv_at hl 2 rfl) ?_
        refine lv_iconst (v := 1) hx hb dX7_ends_43 (by decide) ?_
        refine lv_isub hx hb dX7_ends_44 ?_
        refine lv_imul hx hb dX7_ends_45 ?_
        refine gCv1 (gRunS (As := [.ref (a_mpast 0), .int (130 * x2_20), .ref (a_mpast 0), .int (130 * (x2_20 - 1))]) (rest := []) ⟨hx, hb, hml, hown, hts⟩ (ctX7_copies_same l g a_mpast _ 1040 m_past_20 (130 * x2_20) (130 * (x2_20 - 1)) hw) (va_cwS 4 hts gX7_ends_X7_copies rfl rfl rfl (by decide +kernel) ⟨Nat.le_of_ble_eq_true rfl, Nat.le_of_ble_eq_true rfl⟩) hE (gSub hP [2]) (gDSub hD [2] rfl) rfl rfl hl.1 rfl (lv_room (Nat.le_of_ble_eq_true rfl)) dX7_ends_46 ⟨Nat.le_of_ble_eq_true rfl, Nat.le_of_ble_eq_true rfl⟩) hP hD hS hA [2] rfl (fun _ => rfl) rfl (fun m_past_v2 H locs hw hP hD hS => ?_)
        have hP : va_P g.1 vwCl (List.flatten [kMo g a_mo a_ms a_mwas a_mtried a_msaved a_mpast a_mfar a_mdrift a_mline a_mtape a_mcommands m_changes_20 m_thrown m_errorAt m_failedAt m_answer m_isSaved m_lined m_taped m_here m_commandMany, kAr g a_mwas 130 m_was, kAr g a_mpast 1040 m_past_v2]) H := hP
        have hD : va_D A (List.flatten [kMo g a_mo a_ms a_mwas a_mtried a_msaved a_mpast a_mfar a_mdrift a_mline a_mtape a_mcommands m_changes_20 m_thrown m_errorAt m_failedAt m_answer m_isSaved m_lined m_taped m_here m_commandMany, kAr g a_mwas 130 m_was, kAr g a_mpast 1040 m_past_v2]) := hD
        refine lv_iinc (v := (x2_20 + 1)) (lv' := [(2, .int (x2_20 + 1)), (0, .ref (a_mo 0)), (1, .int x1)]) hx hb dX7_ends_49 hl (k := 2) rfl rfl (by decide) rfl (fun ls hl => ?_)
        refine lv_goto (tgt := 20) hx hb dX7_ends_52 (by decide) ?_
        exact ih_20 m_changes_20 (x2_20 + 1) m_past_v2 _ _ _ hw hP hD hS (lv_sub hl [1, 2, 0] rfl)
  refine lv_aload_n hx hb dX7_ends_0 rfl (lv_at hl 0 rfl) ?_
  refine va_get (D := g.1) (ci := 11) (v := .int m_thrown) (C := RX7) (T := TX7) (N := 20) hx hb hts inX7_ends_X7 hown hE.1 hP 0 rfl rfl 8 (by decide) (gW hts 1 (.fieldLink RX7 47 "SnowDispatcherModel" "thrown" "I") rfl) (fun _ h9 => h9) rfl dX7_ends_1 ?_
  refine lv_if_eq (tgt := 9) hx hb dX7_ends_4 (by decide) (fun c_4 => ?_) (fun c_4 => ?_)
  · have hw := hw.1 c_4
    refine lv_aload_n hx hb dX7_ends_9 rfl (lv_at hl 0 rfl) ?_
    refine va_get (D := g.1) (ci := 11) (v := .int m_changes) (C := RX7) (T := TX7) (N := 20) hx hb hts inX7_ends_X7 hown hE.1 hP 0 rfl rfl 7 (by decide) (gW hts 2 (.fieldLink RX7 54 "SnowDispatcherModel" "changes" "I") rfl) (fun _ h9 => h9) rfl dX7_ends_10 ?_
    refine lv_bipush (v := 8) hx hb dX7_ends_13 (by decide) ?_
    refine lv_icmp_ne (tgt := 65) hx hb dX7_ends_15 (by decide) (fun c_15 => ?_) (fun c_15 => ?_)
    · have hw := hw.1 c_15
      exact J65 m_changes m_past _ _ _ hw hP hD hS (lv_sub hl [0, 1] rfl)
    · have hw := hw.2 c_15
      refine lv_iconst (v := 1) hx hb dX7_ends_18 (by decide) ?_
      refine lv_istore_n (lv' := [(2, .int 1), (0, .ref (a_mo 0)), (1, .int x1)]) hx hb dX7_ends_19 rfl hl (by decide) rfl (fun ls hl => ?_)
      obtain ⟨n, hw⟩ := hw
      exact L20 n m_changes 1 m_past _ _ _ hw hP hD hS (lv_sub hl [1, 2, 0] rfl)
  · have hw := hw.2 c_4
    refine lv_iconst (v := 0) hx hb dX7_ends_7 (by decide) ?_
    subst hQ
    exact W.iret hx hb hr (gRi2 (c1 := m_changes) (c2 := m_past) (wf := _) hA0 hsz hw hP hD hS) hS.2.2 dX7_ends_8
abbrev rmX7_isThrown : Room := { frames := 1, cells := 0, slots := 0, locals := 100 }
set_option maxRecDepth 20000 in
theorem inX7_isThrown_X7 : ∀ w ∈ wsX70, w ∈ wsX7_isThrown := by decide +kernel
set_option maxHeartbeats 4000000 in
set_option maxRecDepth 100000 in
theorem ctX7_isThrown (l : Launch) (g : GG) (a_mo : Nat → Nat) (a_ms : Nat → Nat) (a_mwas : Nat → Nat) (a_mtried : Nat → Nat) (a_msaved : Nat → Nat) (a_mpast : Nat → Nat) (a_mfar : Nat → Nat) (a_mdrift : Nat → Nat) (a_mline : Nat → Nat) (a_mtape : Nat → Nat) (a_mcommands : Nat → Nat) (sz : Nat) (m_changes : Int32) (m_thrown : Int32) (m_errorAt : Int32) (m_failedAt : Int32) (m_answer : Int32) (m_isSaved : Int32) (m_lined : Int32) (m_taped : Int32) (m_here : Int32) (m_commandMany : Int32) (x1 : Int32) (x2 : Int32) {post : Int32 → Int32 → Prop} (hw : wpX7_isThrown x1 x2 m_thrown post) :
    Met l yX7_isThrown wsX7_isThrown rmX7_isThrown (gPc g sz (List.flatten [kMo g a_mo a_ms a_mwas a_mtried a_msaved a_mpast a_mfar a_mdrift a_mline a_mtape a_mcommands m_changes m_thrown m_errorAt m_failedAt m_answer m_isSaved m_lined m_taped m_here m_commandMany]) [.ref (a_mo 0), .int x1, .int x2]) (gQi1 post (fun u1 => gB g (List.flatten [kMo g a_mo a_ms a_mwas a_mtried a_msaved a_mpast a_mfar a_mdrift a_mline a_mtape a_mcommands m_changes m_thrown m_errorAt m_failedAt m_answer m_isSaved m_lined m_taped m_here m_commandMany]) sz (List.flatten [kMo g a_mo a_ms a_mwas a_mtried a_msaved a_mpast a_mfar a_mdrift a_mline a_mtape a_mcommands m_changes u1 m_errorAt m_failedAt m_answer m_isSaved m_lined m_taped m_here m_commandMany])) (va_A (List.flatten [kMo g a_mo a_ms a_mwas a_mtried a_msaved a_mpast a_mfar a_mdrift a_mline a_mtape a_mcommands m_changes m_thrown m_errorAt m_failedAt m_answer m_isSaved m_lined m_taped m_here m_commandMany]) sz)) 0 0 (va_A (List.flatten [kMo g a_mo a_ms a_mwas a_mtried a_msaved a_mpast a_mfar a_mdrift a_mline a_mtape a_mcommands m_changes m_thrown m_errorAt m_failedAt m_answer m_isSaved m_lined m_taped m_here m_commandMany]) sz) := by
  refine gOf (cc := cX7_isThrown) (maxL := 3) (ret := (some .boolean)) (by decide) rfl (Nat.le_of_ble_eq_true rfl) ?_
  intro p e s m below meth c ls Q A hQ hx hb hr hml hts hown hlocks hE hA0 hsz hP hD hA hS hl
  have hl : lv_has ls 3 [(0, .ref (a_mo 0)), (1, .int x1), (2, .int x2)] := hl
  refine lv_aload_n hx hb dX7_isThrown_0 rfl (lv_at hl 0 rfl) ?_
  refine lv_iload_n hx hb dX7_isThrown_1 rfl (lv_at hl 1 rfl) ?_
  refine lv_if_eq (tgt := 9) hx hb dX7_isThrown_2 (by decide) (fun c_2 => ?_) (fun c_2 => ?_)
  · have hw := hw.1 c_2
    refine lv_iconst (v := 0) hx hb dX7_isThrown_9 (by decide) ?_
    refine va_put (D := g.1) (ci := 11) (v := .int 0) (ty := .int) (C := RX7) (T := TX7) (N := 20) hx hb hts inX7_isThrown_X7 tyX7 tyX7_ok nmX7 hown hE.1 hP hD hS 0 rfl rfl 8 (by decide) (gW hts 1 (.fieldLink RX7 47 "SnowDispatcherModel" "thrown" "I") rfl) (fun _ h9 => h9) rfl (by decide +kernel) rfl rfl (Nat.le_of_ble_eq_true rfl) dX7_isThrown_10 (fun H locs hP hD hS => ?_)
    have hP : va_P g.1 vwCl (List.flatten [kMo g a_mo a_ms a_mwas a_mtried a_msaved a_mpast a_mfar a_mdrift a_mline a_mtape a_mcommands m_changes 0 m_errorAt m_failedAt m_answer m_isSaved m_lined m_taped m_here m_commandMany]) H := hP
    have hD : va_D A (List.flatten [kMo g a_mo a_ms a_mwas a_mtried a_msaved a_mpast a_mfar a_mdrift a_mline a_mtape a_mcommands m_changes 0 m_errorAt m_failedAt m_answer m_isSaved m_lined m_taped m_here m_commandMany]) := hD
    refine lv_iload_n hx hb dX7_isThrown_13 rfl (lv_at hl 1 rfl) ?_
    have h1 := hw.1
    have hw := hw.2
    subst hQ
    exact W.zret (ty := .boolean) hx hb hr h1 (gRi1 (c1 := 0) (wf := _) hA0 hsz hw hP hD hS) hS.2.2 dX7_isThrown_14
  · have hw := hw.2 c_2
    refine lv_iload_n hx hb dX7_isThrown_5 rfl (lv_at hl 2 rfl) ?_
    refine lv_goto (tgt := 10) hx hb dX7_isThrown_6 (by decide) ?_
    refine va_put (D := g.1) (ci := 11) (v := .int x2) (ty := .int) (C := RX7) (T := TX7) (N := 20) hx hb hts inX7_isThrown_X7 tyX7 tyX7_ok nmX7 hown hE.1 hP hD hS 0 rfl rfl 8 (by decide) (gW hts 1 (.fieldLink RX7 47 "SnowDispatcherModel" "thrown" "I") rfl) (fun _ h9 => h9) rfl (by decide +kernel) rfl rfl (Nat.le_of_ble_eq_true rfl) dX7_isThrown_10 (fun H locs hP hD hS => ?_)
    have hP : va_P g.1 vwCl (List.flatten [kMo g a_mo a_ms a_mwas a_mtried a_msaved a_mpast a_mfar a_mdrift a_mline a_mtape a_mcommands m_changes x2 m_errorAt m_failedAt m_answer m_isSaved m_lined m_taped m_here m_commandMany]) H := hP
    have hD : va_D A (List.flatten [kMo g a_mo a_ms a_mwas a_mtried a_msaved a_mpast a_mfar a_mdrift a_mline a_mtape a_mcommands m_changes x2 m_errorAt m_failedAt m_answer m_isSaved m_lined m_taped m_here m_commandMany]) := hD
    refine lv_iload_n hx hb dX7_isThrown_13 rfl (lv_at hl 1 rfl) ?_
    have h2 := hw.1
    have hw := hw.2
    subst hQ
    exact W.zret (ty := .boolean) hx hb hr h2 (gRi1 (c1 := x2) (wf := _) hA0 hsz hw hP hD hS) hS.2.2 dX7_isThrown_14
abbrev rmX7_isJunction : Room := { frames := 2, cells := 0, slots := 0, locals := 123 }
set_option maxHeartbeats 4000000 in
set_option maxRecDepth 100000 in
theorem ctX7_isJunction (l : Launch) (g : GG) (sz : Nat) (x0 : Int32) {post : Int32 → Prop} (hw : wpX7_isJunction x0 post) :
    Met l yX7_isJunction wsX7_isJunction rmX7_isJunction (gPc g sz (List.flatten []) [.int x0]) (gQi0 post (gB g (List.flatten []) sz (List.flatten [])) (va_A (List.flatten []) sz)) 0 0 (va_A (List.flatten []) sz) := by
  refine gOf (cc := cX7_isJunction) (maxL := 1) (ret := (some .boolean)) (by decide) rfl (Nat.le_of_ble_eq_true rfl) ?_
  intro p e s m below meth c ls Q A hQ hx hb hr hml hts hown hlocks hE hA0 hsz hP hD hA hS hl
  have hl : lv_has ls 1 [(0, .int x0)] := hl
  refine lv_iload_n hx hb dX7_isJunction_0 rfl (lv_at hl 0 rfl) ?_
  refine lv_iconst (v := 0) hx hb dX7_isJunction_1 (by decide) ?_
  refine lv_bipush (v := 7) hx hb dX7_isJunction_2 (by decide) ?_
  refine gCi0 (gRunS (As := [.int x0, .int 0, .int 7]) (rest := []) ⟨hx, hb, hml, hown, hts⟩ (ctX7_isIn l g _ x0 0 7 hw) (va_cwS 3 hts gX7_isJunction_X7_isIn rfl rfl rfl (by decide +kernel) ⟨Nat.le_of_ble_eq_true rfl, Nat.le_of_ble_eq_true rfl⟩) hE (gSub hP []) (gDSub hD [] rfl) rfl rfl hl.1 rfl (lv_room (Nat.le_of_ble_eq_true rfl)) dX7_isJunction_4 ⟨Nat.le_of_ble_eq_true rfl, Nat.le_of_ble_eq_true rfl⟩) hP hD hS hA [] rfl rfl rfl (fun r1 H locs hw hP hD hS => ?_)
  have hP : va_P g.1 vwCl (List.flatten []) H := hP
  have hD : va_D A (List.flatten []) := hD
  have h2 := hw.1
  have hw := hw.2
  subst hQ
  exact W.zret (ty := .boolean) hx hb hr h2 (gRi0 (wf := _) hA0 hsz hw hP hD hS) hS.2.2 dX7_isJunction_7
abbrev rmX7_isStreet : Room := { frames := 2, cells := 0, slots := 0, locals := 123 }
set_option maxRecDepth 20000 in
theorem inX7_isStreet_X7 : ∀ w ∈ wsX70, w ∈ wsX7_isStreet := by decide +kernel
set_option maxHeartbeats 4000000 in
set_option maxRecDepth 100000 in
theorem ctX7_isStreet (l : Launch) (g : GG) (a_mo : Nat → Nat) (a_ms : Nat → Nat) (a_mwas : Nat → Nat) (a_mtried : Nat → Nat) (a_msaved : Nat → Nat) (a_mpast : Nat → Nat) (a_mfar : Nat → Nat) (a_mdrift : Nat → Nat) (a_mline : Nat → Nat) (a_mtape : Nat → Nat) (a_mcommands : Nat → Nat) (sz : Nat) (m_changes : Int32) (m_thrown : Int32) (m_errorAt : Int32) (m_failedAt : Int32) (m_answer : Int32) (m_isSaved : Int32) (m_lined : Int32) (m_taped : Int32) (m_here : Int32) (m_commandMany : Int32) (m_s : Nat → Int32) (x1 : Int32) {post : Int32 → Prop} (hw : wpX7_isStreet x1 m_s post) :
    Met l yX7_isStreet wsX7_isStreet rmX7_isStreet (gPc g sz (List.flatten [kMo g a_mo a_ms a_mwas a_mtried a_msaved a_mpast a_mfar a_mdrift a_mline a_mtape a_mcommands m_changes m_thrown m_errorAt m_failedAt m_answer m_isSaved m_lined m_taped m_here m_commandMany, kAr g a_ms 130 m_s]) [.ref (a_mo 0), .int x1]) (gQi0 post (gB g (List.flatten [kMo g a_mo a_ms a_mwas a_mtried a_msaved a_mpast a_mfar a_mdrift a_mline a_mtape a_mcommands m_changes m_thrown m_errorAt m_failedAt m_answer m_isSaved m_lined m_taped m_here m_commandMany, kAr g a_ms 130 m_s]) sz (List.flatten [kMo g a_mo a_ms a_mwas a_mtried a_msaved a_mpast a_mfar a_mdrift a_mline a_mtape a_mcommands m_changes m_thrown m_errorAt m_failedAt m_answer m_isSaved m_lined m_taped m_here m_commandMany, kAr g a_ms 130 m_s])) (va_A (List.flatten [kMo g a_mo a_ms a_mwas a_mtried a_msaved a_mpast a_mfar a_mdrift a_mline a_mtape a_mcommands m_changes m_thrown m_errorAt m_failedAt m_answer m_isSaved m_lined m_taped m_here m_commandMany, kAr g a_ms 130 m_s]) sz)) 0 0 (va_A (List.flatten [kMo g a_mo a_ms a_mwas a_mtried a_msaved a_mpast a_mfar a_mdrift a_mline a_mtape a_mcommands m_changes m_thrown m_errorAt m_failedAt m_answer m_isSaved m_lined m_taped m_here m_commandMany, kAr g a_ms 130 m_s]) sz) := by
  refine gOf (cc := cX7_isStreet) (maxL := 2) (ret := (some .boolean)) (by decide) rfl (Nat.le_of_ble_eq_true rfl) ?_
  intro p e s m below meth c ls Q A hQ hx hb hr hml hts hown hlocks hE hA0 hsz hP hD hA hS hl
  have hl : lv_has ls 2 [(0, .ref (a_mo 0)), (1, .int x1)] := hl
  refine lv_iload_n hx hb dX7_isStreet_0 rfl (lv_at hl 1 rfl) ?_
  refine lv_iconst (v := 0) hx hb dX7_isStreet_1 (by decide) ?_
  refine lv_aload_n hx hb dX7_isStreet_2 rfl (lv_at hl 0 rfl) ?_
  refine va_get (D := g.1) (ci := 11) (v := .ref (a_ms 0)) (C := RX7) (T := TX7) (N := 20) hx hb hts inX7_isStreet_X7 hown hE.1 hP 0 rfl rfl 0 (by decide) (gW hts 1 (.fieldLink RX7 9 "SnowDispatcherModel" "s" "[I") rfl) (fun _ h9 => h9) rfl dX7_isStreet_3 ?_
  refine lv_iconst (v := 1) hx hb dX7_isStreet_6 (by decide) ?_
  have h1 := hw.1
  have hw := hw.2
  refine va_iald hx hb hE.1 hP 1 0 rfl rfl h1 dX7_isStreet_7 ?_
  refine lv_iconst (v := 1) hx hb dX7_isStreet_8 (by decide) ?_
  refine lv_isub hx hb dX7_isStreet_9 ?_
  refine gCi0 (gRunS (As := [.int x1, .int 0, .int ((m_s (1 : Int32).toNatClampNeg) - 1)]) (rest := []) ⟨hx, hb, hml, hown, hts⟩ (ctX7_isIn l g _ x1 0 ((m_s (1 : Int32).toNatClampNeg) - 1) hw) (va_cwS 3 hts gX7_isStreet_X7_isIn rfl rfl rfl (by decide +kernel) ⟨Nat.le_of_ble_eq_true rfl, Nat.le_of_ble_eq_true rfl⟩) hE (gSub hP []) (gDSub hD [] rfl) rfl rfl hl.1 rfl (lv_room (Nat.le_of_ble_eq_true rfl)) dX7_isStreet_10 ⟨Nat.le_of_ble_eq_true rfl, Nat.le_of_ble_eq_true rfl⟩) hP hD hS hA [] rfl rfl rfl (fun r2 H locs hw hP hD hS => ?_)
  have hP : va_P g.1 vwCl (List.flatten [kMo g a_mo a_ms a_mwas a_mtried a_msaved a_mpast a_mfar a_mdrift a_mline a_mtape a_mcommands m_changes m_thrown m_errorAt m_failedAt m_answer m_isSaved m_lined m_taped m_here m_commandMany, kAr g a_ms 130 m_s]) H := hP
  have hD : va_D A (List.flatten [kMo g a_mo a_ms a_mwas a_mtried a_msaved a_mpast a_mfar a_mdrift a_mline a_mtape a_mcommands m_changes m_thrown m_errorAt m_failedAt m_answer m_isSaved m_lined m_taped m_here m_commandMany, kAr g a_ms 130 m_s]) := hD
  have h3 := hw.1
  have hw := hw.2
  subst hQ
  exact W.zret (ty := .boolean) hx hb hr h3 (gRi0 (wf := _) hA0 hsz hw hP hD hS) hS.2.2 dX7_isStreet_13
abbrev rmX7_isPlough : Room := { frames := 2, cells := 0, slots := 0, locals := 123 }
set_option maxRecDepth 20000 in
theorem inX7_isPlough_X7 : ∀ w ∈ wsX70, w ∈ wsX7_isPlough := by decide +kernel
set_option maxHeartbeats 4000000 in
set_option maxRecDepth 100000 in
theorem ctX7_isPlough (l : Launch) (g : GG) (a_mo : Nat → Nat) (a_ms : Nat → Nat) (a_mwas : Nat → Nat) (a_mtried : Nat → Nat) (a_msaved : Nat → Nat) (a_mpast : Nat → Nat) (a_mfar : Nat → Nat) (a_mdrift : Nat → Nat) (a_mline : Nat → Nat) (a_mtape : Nat → Nat) (a_mcommands : Nat → Nat) (sz : Nat) (m_changes : Int32) (m_thrown : Int32) (m_errorAt : Int32) (m_failedAt : Int32) (m_answer : Int32) (m_isSaved : Int32) (m_lined : Int32) (m_taped : Int32) (m_here : Int32) (m_commandMany : Int32) (m_s : Nat → Int32) (x1 : Int32) {post : Int32 → Prop} (hw : wpX7_isPlough x1 m_s post) :
    Met l yX7_isPlough wsX7_isPlough rmX7_isPlough (gPc g sz (List.flatten [kMo g a_mo a_ms a_mwas a_mtried a_msaved a_mpast a_mfar a_mdrift a_mline a_mtape a_mcommands m_changes m_thrown m_errorAt m_failedAt m_answer m_isSaved m_lined m_taped m_here m_commandMany, kAr g a_ms 130 m_s]) [.ref (a_mo 0), .int x1]) (gQi0 post (gB g (List.flatten [kMo g a_mo a_ms a_mwas a_mtried a_msaved a_mpast a_mfar a_mdrift a_mline a_mtape a_mcommands m_changes m_thrown m_errorAt m_failedAt m_answer m_isSaved m_lined m_taped m_here m_commandMany, kAr g a_ms 130 m_s]) sz (List.flatten [kMo g a_mo a_ms a_mwas a_mtried a_msaved a_mpast a_mfar a_mdrift a_mline a_mtape a_mcommands m_changes m_thrown m_errorAt m_failedAt m_answer m_isSaved m_lined m_taped m_here m_commandMany, kAr g a_ms 130 m_s])) (va_A (List.flatten [kMo g a_mo a_ms a_mwas a_mtried a_msaved a_mpast a_mfar a_mdrift a_mline a_mtape a_mcommands m_changes m_thrown m_errorAt m_failedAt m_answer m_isSaved m_lined m_taped m_here m_commandMany, kAr g a_ms 130 m_s]) sz)) 0 0 (va_A (List.flatten [kMo g a_mo a_ms a_mwas a_mtried a_msaved a_mpast a_mfar a_mdrift a_mline a_mtape a_mcommands m_changes m_thrown m_errorAt m_failedAt m_answer m_isSaved m_lined m_taped m_here m_commandMany, kAr g a_ms 130 m_s]) sz) := by
  refine gOf (cc := cX7_isPlough) (maxL := 2) (ret := (some .boolean)) (by decide) rfl (Nat.le_of_ble_eq_true rfl) ?_
  intro p e s m below meth c ls Q A hQ hx hb hr hml hts hown hlocks hE hA0 hsz hP hD hA hS hl
  have hl : lv_has ls 2 [(0, .ref (a_mo 0)), (1, .int x1)] := hl
  refine lv_iload_n hx hb dX7_isPlough_0 rfl (lv_at hl 1 rfl) ?_
  refine lv_iconst (v := 0) hx hb dX7_isPlough_1 (by decide) ?_
  refine lv_aload_n hx hb dX7_isPlough_2 rfl (lv_at hl 0 rfl) ?_
  refine va_get (D := g.1) (ci := 11) (v := .ref (a_ms 0)) (C := RX7) (T := TX7) (N := 20) hx hb hts inX7_isPlough_X7 hown hE.1 hP 0 rfl rfl 0 (by decide) (gW hts 1 (.fieldLink RX7 9 "SnowDispatcherModel" "s" "[I") rfl) (fun _ h9 => h9) rfl dX7_isPlough_3 ?_
  refine lv_iconst (v := 2) hx hb dX7_isPlough_6 (by decide) ?_
  have h1 := hw.1
  have hw := hw.2
  refine va_iald hx hb hE.1 hP 1 0 rfl rfl h1 dX7_isPlough_7 ?_
  refine lv_iconst (v := 1) hx hb dX7_isPlough_8 (by decide) ?_
  refine lv_isub hx hb dX7_isPlough_9 ?_
  refine gCi0 (gRunS (As := [.int x1, .int 0, .int ((m_s (2 : Int32).toNatClampNeg) - 1)]) (rest := []) ⟨hx, hb, hml, hown, hts⟩ (ctX7_isIn l g _ x1 0 ((m_s (2 : Int32).toNatClampNeg) - 1) hw) (va_cwS 3 hts gX7_isPlough_X7_isIn rfl rfl rfl (by decide +kernel) ⟨Nat.le_of_ble_eq_true rfl, Nat.le_of_ble_eq_true rfl⟩) hE (gSub hP []) (gDSub hD [] rfl) rfl rfl hl.1 rfl (lv_room (Nat.le_of_ble_eq_true rfl)) dX7_isPlough_10 ⟨Nat.le_of_ble_eq_true rfl, Nat.le_of_ble_eq_true rfl⟩) hP hD hS hA [] rfl rfl rfl (fun r2 H locs hw hP hD hS => ?_)
  have hP : va_P g.1 vwCl (List.flatten [kMo g a_mo a_ms a_mwas a_mtried a_msaved a_mpast a_mfar a_mdrift a_mline a_mtape a_mcommands m_changes m_thrown m_errorAt m_failedAt m_answer m_isSaved m_lined m_taped m_here m_commandMany, kAr g a_ms 130 m_s]) H := hP
  have hD : va_D A (List.flatten [kMo g a_mo a_ms a_mwas a_mtried a_msaved a_mpast a_mfar a_mdrift a_mline a_mtape a_mcommands m_changes m_thrown m_errorAt m_failedAt m_answer m_isSaved m_lined m_taped m_here m_commandMany, kAr g a_ms 130 m_s]) := hD
  have h3 := hw.1
  have hw := hw.2
  subst hQ
  exact W.zret (ty := .boolean) hx hb hr h3 (gRi0 (wf := _) hA0 hsz hw hP hD hS) hS.2.2 dX7_isPlough_13
abbrev rmX7_of : Room := { frames := 1, cells := 0, slots := 0, locals := 100 }
set_option maxRecDepth 20000 in
theorem inX7_of_X7 : ∀ w ∈ wsX70, w ∈ wsX7_of := by decide +kernel
set_option maxHeartbeats 4000000 in
set_option maxRecDepth 100000 in
theorem ctX7_of (l : Launch) (g : GG) (a_mo : Nat → Nat) (a_ms : Nat → Nat) (a_mwas : Nat → Nat) (a_mtried : Nat → Nat) (a_msaved : Nat → Nat) (a_mpast : Nat → Nat) (a_mfar : Nat → Nat) (a_mdrift : Nat → Nat) (a_mline : Nat → Nat) (a_mtape : Nat → Nat) (a_mcommands : Nat → Nat) (sz : Nat) (m_changes : Int32) (m_thrown : Int32) (m_errorAt : Int32) (m_failedAt : Int32) (m_answer : Int32) (m_isSaved : Int32) (m_lined : Int32) (m_taped : Int32) (m_here : Int32) (m_commandMany : Int32) (m_s : Nat → Int32) (x1 : Int32) (x2 : Int32) {post : Int32 → Prop} (hw : wpX7_of x1 x2 m_s post) :
    Met l yX7_of wsX7_of rmX7_of (gPc g sz (List.flatten [kMo g a_mo a_ms a_mwas a_mtried a_msaved a_mpast a_mfar a_mdrift a_mline a_mtape a_mcommands m_changes m_thrown m_errorAt m_failedAt m_answer m_isSaved m_lined m_taped m_here m_commandMany, kAr g a_ms 130 m_s]) [.ref (a_mo 0), .int x1, .int x2]) (gQi0 post (gB g (List.flatten [kMo g a_mo a_ms a_mwas a_mtried a_msaved a_mpast a_mfar a_mdrift a_mline a_mtape a_mcommands m_changes m_thrown m_errorAt m_failedAt m_answer m_isSaved m_lined m_taped m_here m_commandMany, kAr g a_ms 130 m_s]) sz (List.flatten [kMo g a_mo a_ms a_mwas a_mtried a_msaved a_mpast a_mfar a_mdrift a_mline a_mtape a_mcommands m_changes m_thrown m_errorAt m_failedAt m_answer m_isSaved m_lined m_taped m_here m_commandMany, kAr g a_ms 130 m_s])) (va_A (List.flatten [kMo g a_mo a_ms a_mwas a_mtried a_msaved a_mpast a_mfar a_mdrift a_mline a_mtape a_mcommands m_changes m_thrown m_errorAt m_failedAt m_answer m_isSaved m_lined m_taped m_here m_commandMany, kAr g a_ms 130 m_s]) sz)) 0 0 (va_A (List.flatten [kMo g a_mo a_ms a_mwas a_mtried a_msaved a_mpast a_mfar a_mdrift a_mline a_mtape a_mcommands m_changes m_thrown m_errorAt m_failedAt m_answer m_isSaved m_lined m_taped m_here m_commandMany, kAr g a_ms 130 m_s]) sz) := by
  refine gOf (cc := cX7_of) (maxL := 3) (ret := (some .int)) (by decide) rfl (Nat.le_of_ble_eq_true rfl) ?_
  intro p e s m below meth c ls Q A hQ hx hb hr hml hts hown hlocks hE hA0 hsz hP hD hA hS hl
  have hl : lv_has ls 3 [(0, .ref (a_mo 0)), (1, .int x1), (2, .int x2)] := hl
  refine lv_aload_n hx hb dX7_of_0 rfl (lv_at hl 0 rfl) ?_
  refine va_get (D := g.1) (ci := 11) (v := .ref (a_ms 0)) (C := RX7) (T := TX7) (N := 20) hx hb hts inX7_of_X7 hown hE.1 hP 0 rfl rfl 0 (by decide) (gW hts 1 (.fieldLink RX7 9 "SnowDispatcherModel" "s" "[I") rfl) (fun _ h9 => h9) rfl dX7_of_1 ?_
  refine lv_bipush (v := 10) hx hb dX7_of_4 (by decide) ?_
  refine lv_bipush (v := 7) hx hb dX7_of_6 (by decide) ?_
  refine lv_iload_n hx hb dX7_of_8 rfl (lv_at hl 1 rfl) ?_
  refine lv_imul hx hb dX7_of_9 ?_
  refine lv_iadd hx hb dX7_of_10 ?_
  refine lv_iload_n hx hb dX7_of_11 rfl (lv_at hl 2 rfl) ?_
  refine lv_iadd hx hb dX7_of_12 ?_
  have h1 := hw.1
  have hw := hw.2
  refine va_iald hx hb hE.1 hP 1 0 rfl rfl h1 dX7_of_13 ?_
  subst hQ
  exact W.iret hx hb hr (gRi0 (wf := _) hA0 hsz hw hP hD hS) hS.2.2 dX7_of_14
abbrev rmX7_sets : Room := { frames := 1, cells := 0, slots := 0, locals := 100 }
set_option maxRecDepth 20000 in
theorem inX7_sets_X7 : ∀ w ∈ wsX70, w ∈ wsX7_sets := by decide +kernel
set_option maxHeartbeats 4000000 in
set_option maxRecDepth 100000 in
theorem ctX7_sets (l : Launch) (g : GG) (a_mo : Nat → Nat) (a_ms : Nat → Nat) (a_mwas : Nat → Nat) (a_mtried : Nat → Nat) (a_msaved : Nat → Nat) (a_mpast : Nat → Nat) (a_mfar : Nat → Nat) (a_mdrift : Nat → Nat) (a_mline : Nat → Nat) (a_mtape : Nat → Nat) (a_mcommands : Nat → Nat) (sz : Nat) (m_changes : Int32) (m_thrown : Int32) (m_errorAt : Int32) (m_failedAt : Int32) (m_answer : Int32) (m_isSaved : Int32) (m_lined : Int32) (m_taped : Int32) (m_here : Int32) (m_commandMany : Int32) (m_s : Nat → Int32) (x1 : Int32) (x2 : Int32) (x3 : Int32) {post : (Nat → Int32) → Prop} (hw : wpX7_sets x1 x2 x3 m_s post) :
    Met l yX7_sets wsX7_sets rmX7_sets (gPc g sz (List.flatten [kMo g a_mo a_ms a_mwas a_mtried a_msaved a_mpast a_mfar a_mdrift a_mline a_mtape a_mcommands m_changes m_thrown m_errorAt m_failedAt m_answer m_isSaved m_lined m_taped m_here m_commandMany, kAr g a_ms 130 m_s]) [.ref (a_mo 0), .int x1, .int x2, .int x3]) (gQv1 post (fun u1 => gB g (List.flatten [kMo g a_mo a_ms a_mwas a_mtried a_msaved a_mpast a_mfar a_mdrift a_mline a_mtape a_mcommands m_changes m_thrown m_errorAt m_failedAt m_answer m_isSaved m_lined m_taped m_here m_commandMany, kAr g a_ms 130 m_s]) sz (List.flatten [kMo g a_mo a_ms a_mwas a_mtried a_msaved a_mpast a_mfar a_mdrift a_mline a_mtape a_mcommands m_changes m_thrown m_errorAt m_failedAt m_answer m_isSaved m_lined m_taped m_here m_commandMany, kAr g a_ms 130 u1])) (va_A (List.flatten [kMo g a_mo a_ms a_mwas a_mtried a_msaved a_mpast a_mfar a_mdrift a_mline a_mtape a_mcommands m_changes m_thrown m_errorAt m_failedAt m_answer m_isSaved m_lined m_taped m_here m_commandMany, kAr g a_ms 130 m_s]) sz)) 0 0 (va_A (List.flatten [kMo g a_mo a_ms a_mwas a_mtried a_msaved a_mpast a_mfar a_mdrift a_mline a_mtape a_mcommands m_changes m_thrown m_errorAt m_failedAt m_answer m_isSaved m_lined m_taped m_here m_commandMany, kAr g a_ms 130 m_s]) sz) := by
  refine gOf (cc := cX7_sets) (maxL := 4) (ret := none) (by decide) rfl (Nat.le_of_ble_eq_true rfl) ?_
  intro p e s m below meth c ls Q A hQ hx hb hr hml hts hown hlocks hE hA0 hsz hP hD hA hS hl
  have hl : lv_has ls 4 [(0, .ref (a_mo 0)), (1, .int x1), (2, .int x2), (3, .int x3)] := hl
  refine lv_aload_n hx hb dX7_sets_0 rfl (lv_at hl 0 rfl) ?_
  refine va_get (D := g.1) (ci := 11) (v := .ref (a_ms 0)) (C := RX7) (T := TX7) (N := 20) hx hb hts inX7_sets_X7 hown hE.1 hP 0 rfl rfl 0 (by decide) (gW hts 1 (.fieldLink RX7 9 "SnowDispatcherModel" "s" "[I") rfl) (fun _ h9 => h9) rfl dX7_sets_1 ?_
  refine lv_bipush (v := 10) hx hb dX7_sets_4 (by decide) ?_
  refine lv_bipush (v := 7) hx hb dX7_sets_6 (by decide) ?_
  refine lv_iload_n hx hb dX7_sets_8 rfl (lv_at hl 1 rfl) ?_
  refine lv_imul hx hb dX7_sets_9 ?_
  refine lv_iadd hx hb dX7_sets_10 ?_
  refine lv_iload_n hx hb dX7_sets_11 rfl (lv_at hl 2 rfl) ?_
  refine lv_iadd hx hb dX7_sets_12 ?_
  refine lv_iload_n hx hb dX7_sets_13 rfl (lv_at hl 3 rfl) ?_
  have h1 := hw.1
  have hw := hw.2
  refine va_iast hx hb hE.1 hP hD hS 1 0 rfl rfl h1 dX7_sets_14 (fun H locs hP hD hS => ?_)
  have hP : va_P g.1 vwCl (List.flatten [kMo g a_mo a_ms a_mwas a_mtried a_msaved a_mpast a_mfar a_mdrift a_mline a_mtape a_mcommands m_changes m_thrown m_errorAt m_failedAt m_answer m_isSaved m_lined m_taped m_here m_commandMany, kAr g a_ms 130 (upd m_s ((10 + (7 * x1)) + x2).toNatClampNeg x3)]) H := hP
  have hD : va_D A (List.flatten [kMo g a_mo a_ms a_mwas a_mtried a_msaved a_mpast a_mfar a_mdrift a_mline a_mtape a_mcommands m_changes m_thrown m_errorAt m_failedAt m_answer m_isSaved m_lined m_taped m_here m_commandMany, kAr g a_ms 130 (upd m_s ((10 + (7 * x1)) + x2).toNatClampNeg x3)]) := hD
  subst hQ
  exact W.vret hx hb hr (gRv1 (c1 := (upd m_s ((10 + (7 * x1)) + x2).toNatClampNeg x3)) (wf := _) hA0 hsz hw hP hD hS) hS.2.2 dX7_sets_15
abbrev rmX7_ofPlough : Room := { frames := 1, cells := 0, slots := 0, locals := 100 }
set_option maxRecDepth 20000 in
theorem inX7_ofPlough_X7 : ∀ w ∈ wsX70, w ∈ wsX7_ofPlough := by decide +kernel
set_option maxHeartbeats 4000000 in
set_option maxRecDepth 100000 in
theorem ctX7_ofPlough (l : Launch) (g : GG) (a_mo : Nat → Nat) (a_ms : Nat → Nat) (a_mwas : Nat → Nat) (a_mtried : Nat → Nat) (a_msaved : Nat → Nat) (a_mpast : Nat → Nat) (a_mfar : Nat → Nat) (a_mdrift : Nat → Nat) (a_mline : Nat → Nat) (a_mtape : Nat → Nat) (a_mcommands : Nat → Nat) (sz : Nat) (m_changes : Int32) (m_thrown : Int32) (m_errorAt : Int32) (m_failedAt : Int32) (m_answer : Int32) (m_isSaved : Int32) (m_lined : Int32) (m_taped : Int32) (m_here : Int32) (m_commandMany : Int32) (m_s : Nat → Int32) (x1 : Int32) (x2 : Int32) {post : Int32 → Prop} (hw : wpX7_ofPlough x1 x2 m_s post) :
    Met l yX7_ofPlough wsX7_ofPlough rmX7_ofPlough (gPc g sz (List.flatten [kMo g a_mo a_ms a_mwas a_mtried a_msaved a_mpast a_mfar a_mdrift a_mline a_mtape a_mcommands m_changes m_thrown m_errorAt m_failedAt m_answer m_isSaved m_lined m_taped m_here m_commandMany, kAr g a_ms 130 m_s]) [.ref (a_mo 0), .int x1, .int x2]) (gQi0 post (gB g (List.flatten [kMo g a_mo a_ms a_mwas a_mtried a_msaved a_mpast a_mfar a_mdrift a_mline a_mtape a_mcommands m_changes m_thrown m_errorAt m_failedAt m_answer m_isSaved m_lined m_taped m_here m_commandMany, kAr g a_ms 130 m_s]) sz (List.flatten [kMo g a_mo a_ms a_mwas a_mtried a_msaved a_mpast a_mfar a_mdrift a_mline a_mtape a_mcommands m_changes m_thrown m_errorAt m_failedAt m_answer m_isSaved m_lined m_taped m_here m_commandMany, kAr g a_ms 130 m_s])) (va_A (List.flatten [kMo g a_mo a_ms a_mwas a_mtried a_msaved a_mpast a_mfar a_mdrift a_mline a_mtape a_mcommands m_changes m_thrown m_errorAt m_failedAt m_answer m_isSaved m_lined m_taped m_here m_commandMany, kAr g a_ms 130 m_s]) sz)) 0 0 (va_A (List.flatten [kMo g a_mo a_ms a_mwas a_mtried a_msaved a_mpast a_mfar a_mdrift a_mline a_mtape a_mcommands m_changes m_thrown m_errorAt m_failedAt m_answer m_isSaved m_lined m_taped m_here m_commandMany, kAr g a_ms 130 m_s]) sz) := by
  refine gOf (cc := cX7_ofPlough) (maxL := 3) (ret := (some .int)) (by decide) rfl (Nat.le_of_ble_eq_true rfl) ?_
  intro p e s m below meth c ls Q A hQ hx hb hr hml hts hown hlocks hE hA0 hsz hP hD hA hS hl
  have hl : lv_has ls 3 [(0, .ref (a_mo 0)), (1, .int x1), (2, .int x2)] := hl
  refine lv_aload_n hx hb dX7_ofPlough_0 rfl (lv_at hl 0 rfl) ?_
  refine va_get (D := g.1) (ci := 11) (v := .ref (a_ms 0)) (C := RX7) (T := TX7) (N := 20) hx hb hts inX7_ofPlough_X7 hown hE.1 hP 0 rfl rfl 0 (by decide) (gW hts 1 (.fieldLink RX7 9 "SnowDispatcherModel" "s" "[I") rfl) (fun _ h9 => h9) rfl dX7_ofPlough_1 ?_
  refine lv_bipush (v := 94) hx hb dX7_ofPlough_4 (by decide) ?_
  refine lv_bipush (v := 9) hx hb dX7_ofPlough_6 (by decide) ?_
  refine lv_iload_n hx hb dX7_ofPlough_8 rfl (lv_at hl 1 rfl) ?_
  refine lv_imul hx hb dX7_ofPlough_9 ?_
  refine lv_iadd hx hb dX7_ofPlough_10 ?_
  refine lv_iload_n hx hb dX7_ofPlough_11 rfl (lv_at hl 2 rfl) ?_
  refine lv_iadd hx hb dX7_ofPlough_12 ?_
  have h1 := hw.1
  have hw := hw.2
  refine va_iald hx hb hE.1 hP 1 0 rfl rfl h1 dX7_ofPlough_13 ?_
  subst hQ
  exact W.iret hx hb hr (gRi0 (wf := _) hA0 hsz hw hP hD hS) hS.2.2 dX7_ofPlough_14
abbrev rmX7_setsPlough : Room := { frames := 1, cells := 0, slots := 0, locals := 100 }
set_option maxRecDepth 20000 in
theorem inX7_setsPlough_X7 : ∀ w ∈ wsX70, w ∈ wsX7_setsPlough := by decide +kernel
set_option maxHeartbeats 4000000 in
set_option maxRecDepth 100000 in
theorem ctX7_setsPlough (l : Launch) (g : GG) (a_mo : Nat → Nat) (a_ms : Nat → Nat) (a_mwas : Nat → Nat) (a_mtried : Nat → Nat) (a_msaved : Nat → Nat) (a_mpast : Nat → Nat) (a_mfar : Nat → Nat) (a_mdrift : Nat → Nat) (a_mline : Nat → Nat) (a_mtape : Nat → Nat) (a_mcommands : Nat → Nat) (sz : Nat) (m_changes : Int32) (m_thrown : Int32) (m_errorAt : Int32) (m_failedAt : Int32) (m_answer : Int32) (m_isSaved : Int32) (m_lined : Int32) (m_taped : Int32) (m_here : Int32) (m_commandMany : Int32) (m_s : Nat → Int32) (x1 : Int32) (x2 : Int32) (x3 : Int32) {post : (Nat → Int32) → Prop} (hw : wpX7_setsPlough x1 x2 x3 m_s post) :
    Met l yX7_setsPlough wsX7_setsPlough rmX7_setsPlough (gPc g sz (List.flatten [kMo g a_mo a_ms a_mwas a_mtried a_msaved a_mpast a_mfar a_mdrift a_mline a_mtape a_mcommands m_changes m_thrown m_errorAt m_failedAt m_answer m_isSaved m_lined m_taped m_here m_commandMany, kAr g a_ms 130 m_s]) [.ref (a_mo 0), .int x1, .int x2, .int x3]) (gQv1 post (fun u1 => gB g (List.flatten [kMo g a_mo a_ms a_mwas a_mtried a_msaved a_mpast a_mfar a_mdrift a_mline a_mtape a_mcommands m_changes m_thrown m_errorAt m_failedAt m_answer m_isSaved m_lined m_taped m_here m_commandMany, kAr g a_ms 130 m_s]) sz (List.flatten [kMo g a_mo a_ms a_mwas a_mtried a_msaved a_mpast a_mfar a_mdrift a_mline a_mtape a_mcommands m_changes m_thrown m_errorAt m_failedAt m_answer m_isSaved m_lined m_taped m_here m_commandMany, kAr g a_ms 130 u1])) (va_A (List.flatten [kMo g a_mo a_ms a_mwas a_mtried a_msaved a_mpast a_mfar a_mdrift a_mline a_mtape a_mcommands m_changes m_thrown m_errorAt m_failedAt m_answer m_isSaved m_lined m_taped m_here m_commandMany, kAr g a_ms 130 m_s]) sz)) 0 0 (va_A (List.flatten [kMo g a_mo a_ms a_mwas a_mtried a_msaved a_mpast a_mfar a_mdrift a_mline a_mtape a_mcommands m_changes m_thrown m_errorAt m_failedAt m_answer m_isSaved m_lined m_taped m_here m_commandMany, kAr g a_ms 130 m_s]) sz) := by
  refine gOf (cc := cX7_setsPlough) (maxL := 4) (ret := none) (by decide) rfl (Nat.le_of_ble_eq_true rfl) ?_
  intro p e s m below meth c ls Q A hQ hx hb hr hml hts hown hlocks hE hA0 hsz hP hD hA hS hl
  have hl : lv_has ls 4 [(0, .ref (a_mo 0)), (1, .int x1), (2, .int x2), (3, .int x3)] := hl
  refine lv_aload_n hx hb dX7_setsPlough_0 rfl (lv_at hl 0 rfl) ?_
  refine va_get (D := g.1) (ci := 11) (v := .ref (a_ms 0)) (C := RX7) (T := TX7) (N := 20) hx hb hts inX7_setsPlough_X7 hown hE.1 hP 0 rfl rfl 0 (by decide) (gW hts 1 (.fieldLink RX7 9 "SnowDispatcherModel" "s" "[I") rfl) (fun _ h9 => h9) rfl dX7_setsPlough_1 ?_
  refine lv_bipush (v := 94) hx hb dX7_setsPlough_4 (by decide) ?_
  refine lv_bipush (v := 9) hx hb dX7_setsPlough_6 (by decide) ?_
  refine lv_iload_n hx hb dX7_setsPlough_8 rfl (lv_at hl 1 rfl) ?_
  refine lv_imul hx hb dX7_setsPlough_9 ?_
  refine lv_iadd hx hb dX7_setsPlough_10 ?_
  refine lv_iload_n hx hb dX7_setsPlough_11 rfl (lv_at hl 2 rfl) ?_
  refine lv_iadd hx hb dX7_setsPlough_12 ?_
  refine lv_iload_n hx hb dX7_setsPlough_13 rfl (lv_at hl 3 rfl) ?_
  have h1 := hw.1
  have hw := hw.2
  refine va_iast hx hb hE.1 hP hD hS 1 0 rfl rfl h1 dX7_setsPlough_14 (fun H locs hP hD hS => ?_)
  have hP : va_P g.1 vwCl (List.flatten [kMo g a_mo a_ms a_mwas a_mtried a_msaved a_mpast a_mfar a_mdrift a_mline a_mtape a_mcommands m_changes m_thrown m_errorAt m_failedAt m_answer m_isSaved m_lined m_taped m_here m_commandMany, kAr g a_ms 130 (upd m_s ((94 + (9 * x1)) + x2).toNatClampNeg x3)]) H := hP
  have hD : va_D A (List.flatten [kMo g a_mo a_ms a_mwas a_mtried a_msaved a_mpast a_mfar a_mdrift a_mline a_mtape a_mcommands m_changes m_thrown m_errorAt m_failedAt m_answer m_isSaved m_lined m_taped m_here m_commandMany, kAr g a_ms 130 (upd m_s ((94 + (9 * x1)) + x2).toNatClampNeg x3)]) := hD
  subst hQ
  exact W.vret hx hb hr (gRv1 (c1 := (upd m_s ((94 + (9 * x1)) + x2).toNatClampNeg x3)) (wf := _) hA0 hsz hw hP hD hS) hS.2.2 dX7_setsPlough_15
abbrev rmX7_limit : Room := { frames := 2, cells := 0, slots := 0, locals := 123 }
set_option maxRecDepth 20000 in
theorem inX7_limit_X7 : ∀ w ∈ wsX70, w ∈ wsX7_limit := by decide +kernel
set_option maxHeartbeats 4000000 in
set_option maxRecDepth 100000 in
theorem ctX7_limit (l : Launch) (g : GG) (a_mo : Nat → Nat) (a_ms : Nat → Nat) (a_mwas : Nat → Nat) (a_mtried : Nat → Nat) (a_msaved : Nat → Nat) (a_mpast : Nat → Nat) (a_mfar : Nat → Nat) (a_mdrift : Nat → Nat) (a_mline : Nat → Nat) (a_mtape : Nat → Nat) (a_mcommands : Nat → Nat) (sz : Nat) (m_changes : Int32) (m_thrown : Int32) (m_errorAt : Int32) (m_failedAt : Int32) (m_answer : Int32) (m_isSaved : Int32) (m_lined : Int32) (m_taped : Int32) (m_here : Int32) (m_commandMany : Int32) (m_s : Nat → Int32) (x1 : Int32) {post : Int32 → Prop} (hw : wpX7_limit x1 m_s post) :
    Met l yX7_limit wsX7_limit rmX7_limit (gPc g sz (List.flatten [kMo g a_mo a_ms a_mwas a_mtried a_msaved a_mpast a_mfar a_mdrift a_mline a_mtape a_mcommands m_changes m_thrown m_errorAt m_failedAt m_answer m_isSaved m_lined m_taped m_here m_commandMany, kAr g a_ms 130 m_s]) [.ref (a_mo 0), .int x1]) (gQi0 post (gB g (List.flatten [kMo g a_mo a_ms a_mwas a_mtried a_msaved a_mpast a_mfar a_mdrift a_mline a_mtape a_mcommands m_changes m_thrown m_errorAt m_failedAt m_answer m_isSaved m_lined m_taped m_here m_commandMany, kAr g a_ms 130 m_s]) sz (List.flatten [kMo g a_mo a_ms a_mwas a_mtried a_msaved a_mpast a_mfar a_mdrift a_mline a_mtape a_mcommands m_changes m_thrown m_errorAt m_failedAt m_answer m_isSaved m_lined m_taped m_here m_commandMany, kAr g a_ms 130 m_s])) (va_A (List.flatten [kMo g a_mo a_ms a_mwas a_mtried a_msaved a_mpast a_mfar a_mdrift a_mline a_mtape a_mcommands m_changes m_thrown m_errorAt m_failedAt m_answer m_isSaved m_lined m_taped m_here m_commandMany, kAr g a_ms 130 m_s]) sz)) 0 0 (va_A (List.flatten [kMo g a_mo a_ms a_mwas a_mtried a_msaved a_mpast a_mfar a_mdrift a_mline a_mtape a_mcommands m_changes m_thrown m_errorAt m_failedAt m_answer m_isSaved m_lined m_taped m_here m_commandMany, kAr g a_ms 130 m_s]) sz) := by
  refine gOf (cc := cX7_limit) (maxL := 2) (ret := (some .int)) (by decide) rfl (Nat.le_of_ble_eq_true rfl) ?_
  intro p e s m below meth c ls Q A hQ hx hb hr hml hts hown hlocks hE hA0 hsz hP hD hA hS hl
  have hl : lv_has ls 2 [(0, .ref (a_mo 0)), (1, .int x1)] := hl
  refine lv_iconst (v := 5) hx hb dX7_limit_0 (by decide) ?_
  refine lv_aload_n hx hb dX7_limit_1 rfl (lv_at hl 0 rfl) ?_
  refine lv_iload_n hx hb dX7_limit_2 rfl (lv_at hl 1 rfl) ?_
  refine lv_iconst (v := 2) hx hb dX7_limit_3 (by decide) ?_
  refine gCi0 (gRunV (As := [.int x1, .int 2]) (rest := [.int 5]) ⟨hx, hb, hml, hown, hts⟩ (ctX7_of l g a_mo a_ms a_mwas a_mtried a_msaved a_mpast a_mfar a_mdrift a_mline a_mtape a_mcommands _ m_changes m_thrown m_errorAt m_failedAt m_answer m_isSaved m_lined m_taped m_here m_commandMany m_s x1 2 hw) (cwV 2 hts gX7_limit_X7_of rfl rfl rfl (by decide +kernel) ⟨Nat.le_of_ble_eq_true rfl, Nat.le_of_ble_eq_true rfl⟩) hE (gSub hP [0, 1]) (gDSub hD [0, 1] rfl) 0 11 rfl rfl rfl rfl rfl hl.1 rfl (lv_room (Nat.le_of_ble_eq_true rfl)) dX7_limit_4 ⟨Nat.le_of_ble_eq_true rfl, Nat.le_of_ble_eq_true rfl⟩) hP hD hS hA [0, 1] rfl rfl rfl (fun r1 H locs hw hP hD hS => ?_)
  have hP : va_P g.1 vwCl (List.flatten [kMo g a_mo a_ms a_mwas a_mtried a_msaved a_mpast a_mfar a_mdrift a_mline a_mtape a_mcommands m_changes m_thrown m_errorAt m_failedAt m_answer m_isSaved m_lined m_taped m_here m_commandMany, kAr g a_ms 130 m_s]) H := hP
  have hD : va_D A (List.flatten [kMo g a_mo a_ms a_mwas a_mtried a_msaved a_mpast a_mfar a_mdrift a_mline a_mtape a_mcommands m_changes m_thrown m_errorAt m_failedAt m_answer m_isSaved m_lined m_taped m_here m_commandMany, kAr g a_ms 130 m_s]) := hD
  refine lv_bipush (v := 97) hx hb dX7_limit_7 (by decide) ?_
  refine lv_isub hx hb dX7_limit_9 ?_
  refine lv_iconst (v := 1) hx hb dX7_limit_10 (by decide) ?_
  refine lv_iadd hx hb dX7_limit_11 ?_
  refine lv_imul hx hb dX7_limit_12 ?_
  subst hQ
  exact W.iret hx hb hr (gRi0 (wf := _) hA0 hsz hw hP hD hS) hS.2.2 dX7_limit_13
abbrev rmX7_overdue : Room := { frames := 3, cells := 0, slots := 0, locals := 145 }
set_option maxRecDepth 20000 in
theorem inX7_overdue_X7 : ∀ w ∈ wsX70, w ∈ wsX7_overdue := by decide +kernel
set_option maxHeartbeats 4000000 in
set_option maxRecDepth 100000 in
theorem ctX7_overdue (l : Launch) (g : GG) (a_mo : Nat → Nat) (a_ms : Nat → Nat) (a_mwas : Nat → Nat) (a_mtried : Nat → Nat) (a_msaved : Nat → Nat) (a_mpast : Nat → Nat) (a_mfar : Nat → Nat) (a_mdrift : Nat → Nat) (a_mline : Nat → Nat) (a_mtape : Nat → Nat) (a_mcommands : Nat → Nat) (sz : Nat) (m_changes : Int32) (m_thrown : Int32) (m_errorAt : Int32) (m_failedAt : Int32) (m_answer : Int32) (m_isSaved : Int32) (m_lined : Int32) (m_taped : Int32) (m_here : Int32) (m_commandMany : Int32) (m_s : Nat → Int32) (x1 : Int32) {post : Int32 → Prop} (hw : wpX7_overdue x1 m_s post) :
    Met l yX7_overdue wsX7_overdue rmX7_overdue (gPc g sz (List.flatten [kMo g a_mo a_ms a_mwas a_mtried a_msaved a_mpast a_mfar a_mdrift a_mline a_mtape a_mcommands m_changes m_thrown m_errorAt m_failedAt m_answer m_isSaved m_lined m_taped m_here m_commandMany, kAr g a_ms 130 m_s]) [.ref (a_mo 0), .int x1]) (gQi0 post (gB g (List.flatten [kMo g a_mo a_ms a_mwas a_mtried a_msaved a_mpast a_mfar a_mdrift a_mline a_mtape a_mcommands m_changes m_thrown m_errorAt m_failedAt m_answer m_isSaved m_lined m_taped m_here m_commandMany, kAr g a_ms 130 m_s]) sz (List.flatten [kMo g a_mo a_ms a_mwas a_mtried a_msaved a_mpast a_mfar a_mdrift a_mline a_mtape a_mcommands m_changes m_thrown m_errorAt m_failedAt m_answer m_isSaved m_lined m_taped m_here m_commandMany, kAr g a_ms 130 m_s])) (va_A (List.flatten [kMo g a_mo a_ms a_mwas a_mtried a_msaved a_mpast a_mfar a_mdrift a_mline a_mtape a_mcommands m_changes m_thrown m_errorAt m_failedAt m_answer m_isSaved m_lined m_taped m_here m_commandMany, kAr g a_ms 130 m_s]) sz)) 0 0 (va_A (List.flatten [kMo g a_mo a_ms a_mwas a_mtried a_msaved a_mpast a_mfar a_mdrift a_mline a_mtape a_mcommands m_changes m_thrown m_errorAt m_failedAt m_answer m_isSaved m_lined m_taped m_here m_commandMany, kAr g a_ms 130 m_s]) sz) := by
  refine gOf (cc := cX7_overdue) (maxL := 2) (ret := (some .boolean)) (by decide) rfl (Nat.le_of_ble_eq_true rfl) ?_
  intro p e s m below meth c ls Q A hQ hx hb hr hml hts hown hlocks hE hA0 hsz hP hD hA hS hl
  have hl : lv_has ls 2 [(0, .ref (a_mo 0)), (1, .int x1)] := hl
  refine lv_aload_n hx hb dX7_overdue_0 rfl (lv_at hl 0 rfl) ?_
  refine lv_iload_n hx hb dX7_overdue_1 rfl (lv_at hl 1 rfl) ?_
  refine lv_iconst (v := 4) hx hb dX7_overdue_2 (by decide) ?_
  refine gCi0 (gRunV (As := [.int x1, .int 4]) (rest := []) ⟨hx, hb, hml, hown, hts⟩ (ctX7_of l g a_mo a_ms a_mwas a_mtried a_msaved a_mpast a_mfar a_mdrift a_mline a_mtape a_mcommands _ m_changes m_thrown m_errorAt m_failedAt m_answer m_isSaved m_lined m_taped m_here m_commandMany m_s x1 4 hw) (cwV 2 hts gX7_overdue_X7_of rfl rfl rfl (by decide +kernel) ⟨Nat.le_of_ble_eq_true rfl, Nat.le_of_ble_eq_true rfl⟩) hE (gSub hP [0, 1]) (gDSub hD [0, 1] rfl) 0 11 rfl rfl rfl rfl rfl hl.1 rfl (lv_room (Nat.le_of_ble_eq_true rfl)) dX7_overdue_3 ⟨Nat.le_of_ble_eq_true rfl, Nat.le_of_ble_eq_true rfl⟩) hP hD hS hA [0, 1] rfl rfl rfl (fun r1 H locs hw hP hD hS => ?_)
  have hP : va_P g.1 vwCl (List.flatten [kMo g a_mo a_ms a_mwas a_mtried a_msaved a_mpast a_mfar a_mdrift a_mline a_mtape a_mcommands m_changes m_thrown m_errorAt m_failedAt m_answer m_isSaved m_lined m_taped m_here m_commandMany, kAr g a_ms 130 m_s]) H := hP
  have hD : va_D A (List.flatten [kMo g a_mo a_ms a_mwas a_mtried a_msaved a_mpast a_mfar a_mdrift a_mline a_mtape a_mcommands m_changes m_thrown m_errorAt m_failedAt m_answer m_isSaved m_lined m_taped m_here m_commandMany, kAr g a_ms 130 m_s]) := hD
  refine lv_aload_n hx hb dX7_overdue_6 rfl (lv_at hl 0 rfl) ?_
  refine lv_iload_n hx hb dX7_overdue_7 rfl (lv_at hl 1 rfl) ?_
  refine gCi0 (gRunV (As := [.int x1]) (rest := [.int r1]) ⟨hx, hb, hml, hown, hts⟩ (ctX7_limit l g a_mo a_ms a_mwas a_mtried a_msaved a_mpast a_mfar a_mdrift a_mline a_mtape a_mcommands _ m_changes m_thrown m_errorAt m_failedAt m_answer m_isSaved m_lined m_taped m_here m_commandMany m_s x1 hw) (cwV 1 hts gX7_overdue_X7_limit rfl rfl rfl (by decide +kernel) ⟨Nat.le_of_ble_eq_true rfl, Nat.le_of_ble_eq_true rfl⟩) hE (gSub hP [0, 1]) (gDSub hD [0, 1] rfl) 0 11 rfl rfl rfl rfl rfl hl.1 rfl (lv_room (Nat.le_of_ble_eq_true rfl)) dX7_overdue_8 ⟨Nat.le_of_ble_eq_true rfl, Nat.le_of_ble_eq_true rfl⟩) hP hD hS hA [0, 1] rfl rfl rfl (fun r2 H locs hw hP hD hS => ?_)
  have hP : va_P g.1 vwCl (List.flatten [kMo g a_mo a_ms a_mwas a_mtried a_msaved a_mpast a_mfar a_mdrift a_mline a_mtape a_mcommands m_changes m_thrown m_errorAt m_failedAt m_answer m_isSaved m_lined m_taped m_here m_commandMany, kAr g a_ms 130 m_s]) H := hP
  have hD : va_D A (List.flatten [kMo g a_mo a_ms a_mwas a_mtried a_msaved a_mpast a_mfar a_mdrift a_mline a_mtape a_mcommands m_changes m_thrown m_errorAt m_failedAt m_answer m_isSaved m_lined m_taped m_here m_commandMany, kAr g a_ms 130 m_s]) := hD
  refine lv_icmp_le (tgt := 18) hx hb dX7_overdue_11 (by decide) (fun c_11 => ?_) (fun c_11 => ?_)
  · have hw := hw.1 c_11
    refine lv_iconst (v := 0) hx hb dX7_overdue_18 (by decide) ?_
    subst hQ
    exact W.zret (ty := .boolean) hx hb hr (by decide) (gRi0 (wf := _) hA0 hsz hw hP hD hS) hS.2.2 dX7_overdue_19
  · have hw := hw.2 c_11
    refine lv_iconst (v := 1) hx hb dX7_overdue_14 (by decide) ?_
    refine lv_goto (tgt := 19) hx hb dX7_overdue_15 (by decide) ?_
    subst hQ
    exact W.zret (ty := .boolean) hx hb hr (by decide) (gRi0 (wf := _) hA0 hsz hw hP hD hS) hS.2.2 dX7_overdue_19
abbrev rmX7_salted : Room := { frames := 2, cells := 0, slots := 0, locals := 123 }
set_option maxRecDepth 20000 in
theorem inX7_salted_X7 : ∀ w ∈ wsX70, w ∈ wsX7_salted := by decide +kernel
set_option maxHeartbeats 4000000 in
set_option maxRecDepth 100000 in
theorem ctX7_salted (l : Launch) (g : GG) (a_mo : Nat → Nat) (a_ms : Nat → Nat) (a_mwas : Nat → Nat) (a_mtried : Nat → Nat) (a_msaved : Nat → Nat) (a_mpast : Nat → Nat) (a_mfar : Nat → Nat) (a_mdrift : Nat → Nat) (a_mline : Nat → Nat) (a_mtape : Nat → Nat) (a_mcommands : Nat → Nat) (sz : Nat) (m_changes : Int32) (m_thrown : Int32) (m_errorAt : Int32) (m_failedAt : Int32) (m_answer : Int32) (m_isSaved : Int32) (m_lined : Int32) (m_taped : Int32) (m_here : Int32) (m_commandMany : Int32) (m_s : Nat → Int32) (x1 : Int32) {post : Int32 → Prop} (hw : wpX7_salted x1 m_s post) :
    Met l yX7_salted wsX7_salted rmX7_salted (gPc g sz (List.flatten [kMo g a_mo a_ms a_mwas a_mtried a_msaved a_mpast a_mfar a_mdrift a_mline a_mtape a_mcommands m_changes m_thrown m_errorAt m_failedAt m_answer m_isSaved m_lined m_taped m_here m_commandMany, kAr g a_ms 130 m_s]) [.ref (a_mo 0), .int x1]) (gQi0 post (gB g (List.flatten [kMo g a_mo a_ms a_mwas a_mtried a_msaved a_mpast a_mfar a_mdrift a_mline a_mtape a_mcommands m_changes m_thrown m_errorAt m_failedAt m_answer m_isSaved m_lined m_taped m_here m_commandMany, kAr g a_ms 130 m_s]) sz (List.flatten [kMo g a_mo a_ms a_mwas a_mtried a_msaved a_mpast a_mfar a_mdrift a_mline a_mtape a_mcommands m_changes m_thrown m_errorAt m_failedAt m_answer m_isSaved m_lined m_taped m_here m_commandMany, kAr g a_ms 130 m_s])) (va_A (List.flatten [kMo g a_mo a_ms a_mwas a_mtried a_msaved a_mpast a_mfar a_mdrift a_mline a_mtape a_mcommands m_changes m_thrown m_errorAt m_failedAt m_answer m_isSaved m_lined m_taped m_here m_commandMany, kAr g a_ms 130 m_s]) sz)) 0 0 (va_A (List.flatten [kMo g a_mo a_ms a_mwas a_mtried a_msaved a_mpast a_mfar a_mdrift a_mline a_mtape a_mcommands m_changes m_thrown m_errorAt m_failedAt m_answer m_isSaved m_lined m_taped m_here m_commandMany, kAr g a_ms 130 m_s]) sz) := by
  refine gOf (cc := cX7_salted) (maxL := 2) (ret := (some .boolean)) (by decide) rfl (Nat.le_of_ble_eq_true rfl) ?_
  intro p e s m below meth c ls Q A hQ hx hb hr hml hts hown hlocks hE hA0 hsz hP hD hA hS hl
  have hl : lv_has ls 2 [(0, .ref (a_mo 0)), (1, .int x1)] := hl
  refine lv_aload_n hx hb dX7_salted_0 rfl (lv_at hl 0 rfl) ?_
  refine va_get (D := g.1) (ci := 11) (v := .ref (a_ms 0)) (C := RX7) (T := TX7) (N := 20) hx hb hts inX7_salted_X7 hown hE.1 hP 0 rfl rfl 0 (by decide) (gW hts 1 (.fieldLink RX7 9 "SnowDispatcherModel" "s" "[I") rfl) (fun _ h9 => h9) rfl dX7_salted_1 ?_
  refine lv_iconst (v := 0) hx hb dX7_salted_4 (by decide) ?_
  have h1 := hw.1
  have hw := hw.2
  refine va_iald hx hb hE.1 hP 1 0 rfl rfl h1 dX7_salted_5 ?_
  refine lv_aload_n hx hb dX7_salted_6 rfl (lv_at hl 0 rfl) ?_
  refine lv_iload_n hx hb dX7_salted_7 rfl (lv_at hl 1 rfl) ?_
  refine lv_iconst (v := 5) hx hb dX7_salted_8 (by decide) ?_
  refine gCi0 (gRunV (As := [.int x1, .int 5]) (rest := [.int (m_s (0 : Int32).toNatClampNeg)]) ⟨hx, hb, hml, hown, hts⟩ (ctX7_of l g a_mo a_ms a_mwas a_mtried a_msaved a_mpast a_mfar a_mdrift a_mline a_mtape a_mcommands _ m_changes m_thrown m_errorAt m_failedAt m_answer m_isSaved m_lined m_taped m_here m_commandMany m_s x1 5 hw) (cwV 2 hts gX7_salted_X7_of rfl rfl rfl (by decide +kernel) ⟨Nat.le_of_ble_eq_true rfl, Nat.le_of_ble_eq_true rfl⟩) hE (gSub hP [0, 1]) (gDSub hD [0, 1] rfl) 0 11 rfl rfl rfl rfl rfl hl.1 rfl (lv_room (Nat.le_of_ble_eq_true rfl)) dX7_salted_9 ⟨Nat.le_of_ble_eq_true rfl, Nat.le_of_ble_eq_true rfl⟩) hP hD hS hA [0, 1] rfl rfl rfl (fun r2 H locs hw hP hD hS => ?_)
  have hP : va_P g.1 vwCl (List.flatten [kMo g a_mo a_ms a_mwas a_mtried a_msaved a_mpast a_mfar a_mdrift a_mline a_mtape a_mcommands m_changes m_thrown m_errorAt m_failedAt m_answer m_isSaved m_lined m_taped m_here m_commandMany, kAr g a_ms 130 m_s]) H := hP
  have hD : va_D A (List.flatten [kMo g a_mo a_ms a_mwas a_mtried a_msaved a_mpast a_mfar a_mdrift a_mline a_mtape a_mcommands m_changes m_thrown m_errorAt m_failedAt m_answer m_isSaved m_lined m_taped m_here m_commandMany, kAr g a_ms 130 m_s]) := hD
  refine lv_icmp_ge (tgt := 19) hx hb dX7_salted_12 (by decide) (fun c_12 => ?_) (fun c_12 => ?_)
  · have hw := hw.1 c_12
    refine lv_iconst (v := 0) hx hb dX7_salted_19 (by decide) ?_
    subst hQ
    exact W.zret (ty := .boolean) hx hb hr (by decide) (gRi0 (wf := _) hA0 hsz hw hP hD hS) hS.2.2 dX7_salted_20
  · have hw := hw.2 c_12
    refine lv_iconst (v := 1) hx hb dX7_salted_15 (by decide) ?_
    refine lv_goto (tgt := 20) hx hb dX7_salted_16 (by decide) ?_
    subst hQ
    exact W.zret (ty := .boolean) hx hb hr (by decide) (gRi0 (wf := _) hA0 hsz hw hP hD hS) hS.2.2 dX7_salted_20
abbrev rmX7_joins : Room := { frames := 2, cells := 0, slots := 0, locals := 123 }
set_option maxRecDepth 20000 in
theorem inX7_joins_X7 : ∀ w ∈ wsX70, w ∈ wsX7_joins := by decide +kernel
set_option maxHeartbeats 4000000 in
set_option maxRecDepth 100000 in
theorem ctX7_joins (l : Launch) (g : GG) (a_mo : Nat → Nat) (a_ms : Nat → Nat) (a_mwas : Nat → Nat) (a_mtried : Nat → Nat) (a_msaved : Nat → Nat) (a_mpast : Nat → Nat) (a_mfar : Nat → Nat) (a_mdrift : Nat → Nat) (a_mline : Nat → Nat) (a_mtape : Nat → Nat) (a_mcommands : Nat → Nat) (sz : Nat) (m_changes : Int32) (m_thrown : Int32) (m_errorAt : Int32) (m_failedAt : Int32) (m_answer : Int32) (m_isSaved : Int32) (m_lined : Int32) (m_taped : Int32) (m_here : Int32) (m_commandMany : Int32) (m_s : Nat → Int32) (x1 : Int32) (x2 : Int32) {post : Int32 → Prop} (hw : wpX7_joins x1 x2 m_s post) :
    Met l yX7_joins wsX7_joins rmX7_joins (gPc g sz (List.flatten [kMo g a_mo a_ms a_mwas a_mtried a_msaved a_mpast a_mfar a_mdrift a_mline a_mtape a_mcommands m_changes m_thrown m_errorAt m_failedAt m_answer m_isSaved m_lined m_taped m_here m_commandMany, kAr g a_ms 130 m_s]) [.ref (a_mo 0), .int x1, .int x2]) (gQi0 post (gB g (List.flatten [kMo g a_mo a_ms a_mwas a_mtried a_msaved a_mpast a_mfar a_mdrift a_mline a_mtape a_mcommands m_changes m_thrown m_errorAt m_failedAt m_answer m_isSaved m_lined m_taped m_here m_commandMany, kAr g a_ms 130 m_s]) sz (List.flatten [kMo g a_mo a_ms a_mwas a_mtried a_msaved a_mpast a_mfar a_mdrift a_mline a_mtape a_mcommands m_changes m_thrown m_errorAt m_failedAt m_answer m_isSaved m_lined m_taped m_here m_commandMany, kAr g a_ms 130 m_s])) (va_A (List.flatten [kMo g a_mo a_ms a_mwas a_mtried a_msaved a_mpast a_mfar a_mdrift a_mline a_mtape a_mcommands m_changes m_thrown m_errorAt m_failedAt m_answer m_isSaved m_lined m_taped m_here m_commandMany, kAr g a_ms 130 m_s]) sz)) 0 0 (va_A (List.flatten [kMo g a_mo a_ms a_mwas a_mtried a_msaved a_mpast a_mfar a_mdrift a_mline a_mtape a_mcommands m_changes m_thrown m_errorAt m_failedAt m_answer m_isSaved m_lined m_taped m_here m_commandMany, kAr g a_ms 130 m_s]) sz) := by
  refine gOf (cc := cX7_joins) (maxL := 4) (ret := (some .boolean)) (by decide) rfl (Nat.le_of_ble_eq_true rfl) ?_
  intro p e s m below meth c ls Q A hQ hx hb hr hml hts hown hlocks hE hA0 hsz hP hD hA hS hl
  have hl : lv_has ls 4 [(0, .ref (a_mo 0)), (1, .int x1), (2, .int x2)] := hl
  have L2 : ∀ (n : Nat) (x3_2 : Int32) (H : Heap) (locs : List Loc) (ls : Array Slot), wpX7_joins_L2 x1 x2 m_s post n x3_2 → va_P g.1 vwCl (List.flatten [kMo g a_mo a_ms a_mwas a_mtried a_msaved a_mpast a_mfar a_mdrift a_mline a_mtape a_mcommands m_changes m_thrown m_errorAt m_failedAt m_answer m_isSaved m_lined m_taped m_here m_commandMany, kAr g a_ms 130 m_s]) H → va_D A (List.flatten [kMo g a_mo a_ms a_mwas a_mtried a_msaved a_mpast a_mfar a_mdrift a_mline a_mtape a_mcommands m_changes m_thrown m_errorAt m_failedAt m_answer m_isSaved m_lined m_taped m_here m_commandMany, kAr g a_ms 130 m_s]) → va_S A s.heap H locs → lv_has ls 4 [(0, .ref (a_mo 0)), (1, .int x1), (2, .int x2), (3, .int x3_2)] → W p l e rmX7_joins s m (([.ref (a_mo 0), .int x1, .int x2] : List Value).toArray) below meth c H locs 0 0 Q (F0 m 2 ls []) := by
    intro n_2
    induction n_2 with
    | zero => intro x3_2 H locs ls hw; exact False.elim hw
    | succ n_2 ih_2 =>
      intro x3_2 H locs ls hw hP hD hS hl
      refine lv_iload_n hx hb dX7_joins_2 rfl (lv_at hl 3 rfl) ?_
      refine lv_aload_n hx hb dX7_joins_3 rfl (lv_at hl 0 rfl) ?_
      refine va_get (D := g.1) (ci := 11) (v := .ref (a_ms 0)) (C := RX7) (T := TX7) (N := 20) hx hb hts inX7_joins_X7 hown hE.1 hP 0 rfl rfl 0 (by decide) (gW hts 1 (.fieldLink RX7 9 "SnowDispatcherModel" "s" "[I") rfl) (fun _ h9 => h9) rfl dX7_joins_4 ?_
      refine lv_iconst (v := 1) hx hb dX7_joins_7 (by decide) ?_
      have h1 := hw.1
      have hw := hw.2
      refine va_iald hx hb hE.1 hP 1 0 rfl rfl h1 dX7_joins_8 ?_
      refine lv_icmp_ge (tgt := 48) hx hb dX7_joins_9 (by decide) (fun c_9 => ?_) (fun c_9 => ?_)
      · have hw := hw.1 c_9
        refine lv_iconst (v := 0) hx hb dX7_joins_48 (by decide) ?_
        subst hQ
        exact W.zret (ty := .boolean) hx hb hr (by decide) (gRi0 (wf := _) hA0 hsz hw hP hD hS) hS.2.2 dX7_joins_49
      · have hw := hw.2 c_9
        refine lv_aload_n hx hb dX7_joins_12 rfl (lv_at hl 0 rfl) ?_
        refine lv_iload_n hx hb dX7_joins_13 rfl (lv_at hl 3 rfl) ?_
        refine lv_iconst (v := 0) hx hb dX7_joins_14 (by decide) ?_
        refine gCi0 (gRunV (As := [.int x3_2, .int 0]) (rest := []) ⟨hx, hb, hml, hown, hts⟩ (ctX7_of l g a_mo a_ms a_mwas a_mtried a_msaved a_mpast a_mfar a_mdrift a_mline a_mtape a_mcommands _ m_changes m_thrown m_errorAt m_failedAt m_answer m_isSaved m_lined m_taped m_here m_commandMany m_s x3_2 0 hw) (cwV 2 hts gX7_joins_X7_of rfl rfl rfl (by decide +kernel) ⟨Nat.le_of_ble_eq_true rfl, Nat.le_of_ble_eq_true rfl⟩) hE (gSub hP [0, 1]) (gDSub hD [0, 1] rfl) 0 11 rfl rfl rfl rfl rfl hl.1 rfl (lv_room (Nat.le_of_ble_eq_true rfl)) dX7_joins_15 ⟨Nat.le_of_ble_eq_true rfl, Nat.le_of_ble_eq_true rfl⟩) hP hD hS hA [0, 1] rfl rfl rfl (fun r2 H locs hw hP hD hS => ?_)
        have hP : va_P g.1 vwCl (List.flatten [kMo g a_mo a_ms a_mwas a_mtried a_msaved a_mpast a_mfar a_mdrift a_mline a_mtape a_mcommands m_changes m_thrown m_errorAt m_failedAt m_answer m_isSaved m_lined m_taped m_here m_commandMany, kAr g a_ms 130 m_s]) H := hP
        have hD : va_D A (List.flatten [kMo g a_mo a_ms a_mwas a_mtried a_msaved a_mpast a_mfar a_mdrift a_mline a_mtape a_mcommands m_changes m_thrown m_errorAt m_failedAt m_answer m_isSaved m_lined m_taped m_here m_commandMany, kAr g a_ms 130 m_s]) := hD
        refine lv_iload_n hx hb dX7_joins_18 rfl (lv_at hl 1 rfl) ?_
        refine lv_iload_n hx hb dX7_joins_19 rfl (lv_at hl 2 rfl) ?_
        refine gCi0 (gRunS (As := [.int x1, .int x2]) (rest := [.int r2]) ⟨hx, hb, hml, hown, hts⟩ (ctX7_lesser l g _ x1 x2 hw) (va_cwS 2 hts gX7_joins_X7_lesser rfl rfl rfl (by decide +kernel) ⟨Nat.le_of_ble_eq_true rfl, Nat.le_of_ble_eq_true rfl⟩) hE (gSub hP []) (gDSub hD [] rfl) rfl rfl hl.1 rfl (lv_room (Nat.le_of_ble_eq_true rfl)) dX7_joins_20 ⟨Nat.le_of_ble_eq_true rfl, Nat.le_of_ble_eq_true rfl⟩) hP hD hS hA [] rfl rfl rfl (fun r3 H locs hw hP hD hS => ?_)
        have hP : va_P g.1 vwCl (List.flatten [kMo g a_mo a_ms a_mwas a_mtried a_msaved a_mpast a_mfar a_mdrift a_mline a_mtape a_mcommands m_changes m_thrown m_errorAt m_failedAt m_answer m_isSaved m_lined m_taped m_here m_commandMany, kAr g a_ms 130 m_s]) H := hP
        have hD : va_D A (List.flatten [kMo g a_mo a_ms a_mwas a_mtried a_msaved a_mpast a_mfar a_mdrift a_mline a_mtape a_mcommands m_changes m_thrown m_errorAt m_failedAt m_answer m_isSaved m_lined m_taped m_here m_commandMany, kAr g a_ms 130 m_s]) := hD
        refine lv_icmp_ne (tgt := 42) hx hb dX7_joins_23 (by decide) (fun c_23 => ?_) (fun c_23 => ?_)
        · have hw := hw.1 c_23
          refine lv_iinc (v := (x3_2 + 1)) (lv' := [(3, .int (x3_2 + 1)), (0, .ref (a_mo 0)), (1, .int x1), (2, .int x2)]) hx hb dX7_joins_42 hl (k := 3) rfl rfl (by decide) rfl (fun ls hl => ?_)
          refine lv_goto (tgt := 2) hx hb dX7_joins_45 (by decide) ?_
          exact ih_2 (x3_2 + 1) _ _ _ hw hP hD hS (lv_sub hl [1, 2, 3, 0] rfl)
        · have hw := hw.2 c_23
          refine lv_aload_n hx hb dX7_joins_26 rfl (lv_at hl 0 rfl) ?_
          refine lv_iload_n hx hb dX7_joins_27 rfl (lv_at hl 3 rfl) ?_
          refine lv_iconst (v := 1) hx hb dX7_joins_28 (by decide) ?_
          refine gCi0 (gRunV (As := [.int x3_2, .int 1]) (rest := []) ⟨hx, hb, hml, hown, hts⟩ (ctX7_of l g a_mo a_ms a_mwas a_mtried a_msaved a_mpast a_mfar a_mdrift a_mline a_mtape a_mcommands _ m_changes m_thrown m_errorAt m_failedAt m_answer m_isSaved m_lined m_taped m_here m_commandMany m_s x3_2 1 hw) (cwV 2 hts gX7_joins_X7_of rfl rfl rfl (by decide +kernel) ⟨Nat.le_of_ble_eq_true rfl, Nat.le_of_ble_eq_true rfl⟩) hE (gSub hP [0, 1]) (gDSub hD [0, 1] rfl) 0 11 rfl rfl rfl rfl rfl hl.1 rfl (lv_room (Nat.le_of_ble_eq_true rfl)) dX7_joins_29 ⟨Nat.le_of_ble_eq_true rfl, Nat.le_of_ble_eq_true rfl⟩) hP hD hS hA [0, 1] rfl rfl rfl (fun r4 H locs hw hP hD hS => ?_)
          have hP : va_P g.1 vwCl (List.flatten [kMo g a_mo a_ms a_mwas a_mtried a_msaved a_mpast a_mfar a_mdrift a_mline a_mtape a_mcommands m_changes m_thrown m_errorAt m_failedAt m_answer m_isSaved m_lined m_taped m_here m_commandMany, kAr g a_ms 130 m_s]) H := hP
          have hD : va_D A (List.flatten [kMo g a_mo a_ms a_mwas a_mtried a_msaved a_mpast a_mfar a_mdrift a_mline a_mtape a_mcommands m_changes m_thrown m_errorAt m_failedAt m_answer m_isSaved m_lined m_taped m_here m_commandMany, kAr g a_ms 130 m_s]) := hD
          refine lv_iload_n hx hb dX7_joins_32 rfl (lv_at hl 1 rfl) ?_
          refine lv_iload_n hx hb dX7_joins_33 rfl (lv_at hl 2 rfl) ?_
          refine gCi0 (gRunS (As := [.int x1, .int x2]) (rest := [.int r4]) ⟨hx, hb, hml, hown, hts⟩ (ctX7_greater l g _ x1 x2 hw) (va_cwS 2 hts gX7_joins_X7_greater rfl rfl rfl (by decide +kernel) ⟨Nat.le_of_ble_eq_true rfl, Nat.le_of_ble_eq_true rfl⟩) hE (gSub hP []) (gDSub hD [] rfl) rfl rfl hl.1 rfl (lv_room (Nat.le_of_ble_eq_true rfl)) dX7_joins_34 ⟨Nat.le_of_ble_eq_true rfl, Nat.le_of_ble_eq_true rfl⟩) hP hD hS hA [] rfl rfl rfl (fun r5 H locs hw hP hD hS => ?_)
          have hP : va_P g.1 vwCl (List.flatten [kMo g a_mo a_ms a_mwas a_mtried a_msaved a_mpast a_mfar a_mdrift a_mline a_mtape a_mcommands m_changes m_thrown m_errorAt m_failedAt m_answer m_isSaved m_lined m_taped m_here m_commandMany, kAr g a_ms 130 m_s]) H := hP
          have hD : va_D A (List.flatten [kMo g a_mo a_ms a_mwas a_mtried a_msaved a_mpast a_mfar a_mdrift a_mline a_mtape a_mcommands m_changes m_thrown m_errorAt m_failedAt m_answer m_isSaved m_lined m_taped m_here m_commandMany, kAr g a_ms 130 m_s]) := hD
          refine lv_icmp_ne (tgt := 42) hx hb dX7_joins_37 (by decide) (fun c_37 => ?_) (fun c_37 => ?_)
          · have hw := hw.1 c_37
            refine lv_iinc (v := (x3_2 + 1)) (lv' := [(3, .int (x3_2 + 1)), (0, .ref (a_mo 0)), (1, .int x1), (2, .int x2)]) hx hb dX7_joins_42 hl (k := 3) rfl rfl (by decide) rfl (fun ls hl => ?_)
            refine lv_goto (tgt := 2) hx hb dX7_joins_45 (by decide) ?_
            exact ih_2 (x3_2 + 1) _ _ _ hw hP hD hS (lv_sub hl [1, 2, 3, 0] rfl)
          · have hw := hw.2 c_37
            refine lv_iconst (v := 1) hx hb dX7_joins_40 (by decide) ?_
            subst hQ
            exact W.zret (ty := .boolean) hx hb hr (by decide) (gRi0 (wf := _) hA0 hsz hw hP hD hS) hS.2.2 dX7_joins_41
  refine lv_iconst (v := 0) hx hb dX7_joins_0 (by decide) ?_
  refine lv_istore_n (lv' := [(3, .int 0), (0, .ref (a_mo 0)), (1, .int x1), (2, .int x2)]) hx hb dX7_joins_1 rfl hl (by decide) rfl (fun ls hl => ?_)
  obtain ⟨n, hw⟩ := hw
  exact L2 n 0 _ _ _ hw hP hD hS (lv_sub hl [1, 2, 3, 0] rfl)
abbrev rmX7_streets : Room := { frames := 3, cells := 0, slots := 0, locals := 147 }
set_option maxRecDepth 20000 in
theorem inX7_streets_X7 : ∀ w ∈ wsX70, w ∈ wsX7_streets := by decide +kernel
set_option maxHeartbeats 4000000 in
set_option maxRecDepth 100000 in
theorem ctX7_streets (l : Launch) (g : GG) (a_mo : Nat → Nat) (a_ms : Nat → Nat) (a_mwas : Nat → Nat) (a_mtried : Nat → Nat) (a_msaved : Nat → Nat) (a_mpast : Nat → Nat) (a_mfar : Nat → Nat) (a_mdrift : Nat → Nat) (a_mline : Nat → Nat) (a_mtape : Nat → Nat) (a_mcommands : Nat → Nat) (sz : Nat) (m_changes : Int32) (m_thrown : Int32) (m_errorAt : Int32) (m_failedAt : Int32) (m_answer : Int32) (m_isSaved : Int32) (m_lined : Int32) (m_taped : Int32) (m_here : Int32) (m_commandMany : Int32) (m_s : Nat → Int32) (x1 : Int32) (x2 : Int32) (x3 : Int32) (x4 : Int32) {post : Int32 → Int32 → (Nat → Int32) → Prop} (hw : wpX7_streets x1 x2 x3 x4 m_thrown m_s post) :
    Met l yX7_streets wsX7_streets rmX7_streets (gPc g sz (List.flatten [kMo g a_mo a_ms a_mwas a_mtried a_msaved a_mpast a_mfar a_mdrift a_mline a_mtape a_mcommands m_changes m_thrown m_errorAt m_failedAt m_answer m_isSaved m_lined m_taped m_here m_commandMany, kAr g a_ms 130 m_s]) [.ref (a_mo 0), .int x1, .int x2, .int x3, .int x4]) (gQi2 post (fun u1 u2 => gB g (List.flatten [kMo g a_mo a_ms a_mwas a_mtried a_msaved a_mpast a_mfar a_mdrift a_mline a_mtape a_mcommands m_changes m_thrown m_errorAt m_failedAt m_answer m_isSaved m_lined m_taped m_here m_commandMany, kAr g a_ms 130 m_s]) sz (List.flatten [kMo g a_mo a_ms a_mwas a_mtried a_msaved a_mpast a_mfar a_mdrift a_mline a_mtape a_mcommands m_changes u1 m_errorAt m_failedAt m_answer m_isSaved m_lined m_taped m_here m_commandMany, kAr g a_ms 130 u2])) (va_A (List.flatten [kMo g a_mo a_ms a_mwas a_mtried a_msaved a_mpast a_mfar a_mdrift a_mline a_mtape a_mcommands m_changes m_thrown m_errorAt m_failedAt m_answer m_isSaved m_lined m_taped m_here m_commandMany, kAr g a_ms 130 m_s]) sz)) 0 0 (va_A (List.flatten [kMo g a_mo a_ms a_mwas a_mtried a_msaved a_mpast a_mfar a_mdrift a_mline a_mtape a_mcommands m_changes m_thrown m_errorAt m_failedAt m_answer m_isSaved m_lined m_taped m_here m_commandMany, kAr g a_ms 130 m_s]) sz) := by
  refine gOf (cc := cX7_streets) (maxL := 6) (ret := (some .int)) (by decide) rfl (Nat.le_of_ble_eq_true rfl) ?_
  intro p e s m below meth c ls Q A hQ hx hb hr hml hts hown hlocks hE hA0 hsz hP hD hA hS hl
  have hl : lv_has ls 6 [(0, .ref (a_mo 0)), (1, .int x1), (2, .int x2), (3, .int x3), (4, .int x4)] := hl
  have J93 : ∀ (z1_93 : Int32) (m_thrown_93 : Int32) (m_s_93 : Nat → Int32) (H : Heap) (locs : List Loc) (ls : Array Slot), wpX7_streets_L93 x1 x2 x3 x4 post z1_93 m_thrown_93 m_s_93 → va_P g.1 vwCl (List.flatten [kMo g a_mo a_ms a_mwas a_mtried a_msaved a_mpast a_mfar a_mdrift a_mline a_mtape a_mcommands m_changes m_thrown_93 m_errorAt m_failedAt m_answer m_isSaved m_lined m_taped m_here m_commandMany, kAr g a_ms 130 m_s_93]) H → va_D A (List.flatten [kMo g a_mo a_ms a_mwas a_mtried a_msaved a_mpast a_mfar a_mdrift a_mline a_mtape a_mcommands m_changes m_thrown_93 m_errorAt m_failedAt m_answer m_isSaved m_lined m_taped m_here m_commandMany, kAr g a_ms 130 m_s_93]) → va_S A s.heap H locs → lv_has ls 6 [(0, .ref (a_mo 0)), (1, .int x1), (2, .int x2), (3, .int x3), (4, .int x4)] → W p l e rmX7_streets s m (([.ref (a_mo 0), .int x1, .int x2, .int x3, .int x4] : List Value).toArray) below meth c H locs 0 0 Q (F0 m 93 ls [.int z1_93, .ref (a_mo 0)]) := by
    intro z1_93 m_thrown_93 m_s_93 H locs ls hw hP hD hS hl
    refine lv_iconst (v := 3) hx hb dX7_streets_93 (by decide) ?_
    refine gCi1 (gRunV (As := [.int z1_93, .int 3]) (rest := []) ⟨hx, hb, hml, hown, hts⟩ (ctX7_isThrown l g a_mo a_ms a_mwas a_mtried a_msaved a_mpast a_mfar a_mdrift a_mline a_mtape a_mcommands _ m_changes m_thrown_93 m_errorAt m_failedAt m_answer m_isSaved m_lined m_taped m_here m_commandMany z1_93 3 hw) (cwV 2 hts gX7_streets_X7_isThrown rfl rfl rfl (by decide +kernel) ⟨Nat.le_of_ble_eq_true rfl, Nat.le_of_ble_eq_true rfl⟩) hE (gSub hP [0]) (gDSub hD [0] rfl) 0 11 rfl rfl rfl rfl rfl hl.1 rfl (lv_room (Nat.le_of_ble_eq_true rfl)) dX7_streets_94 ⟨Nat.le_of_ble_eq_true rfl, Nat.le_of_ble_eq_true rfl⟩) hP hD hS hA [0] rfl (fun _ => rfl) rfl (fun r5 m_thrown_v5 H locs hw hP hD hS => ?_)
    have hP : va_P g.1 vwCl (List.flatten [kMo g a_mo a_ms a_mwas a_mtried a_msaved a_mpast a_mfar a_mdrift a_mline a_mtape a_mcommands m_changes m_thrown_v5 m_errorAt m_failedAt m_answer m_isSaved m_lined m_taped m_here m_commandMany, kAr g a_ms 130 m_s_93]) H := hP
    have hD : va_D A (List.flatten [kMo g a_mo a_ms a_mwas a_mtried a_msaved a_mpast a_mfar a_mdrift a_mline a_mtape a_mcommands m_changes m_thrown_v5 m_errorAt m_failedAt m_answer m_isSaved m_lined m_taped m_here m_commandMany, kAr g a_ms 130 m_s_93]) := hD
    refine lv_if_eq (tgt := 102) hx hb dX7_streets_97 (by decide) (fun c_97 => ?_) (fun c_97 => ?_)
    · have hw := hw.1 c_97
      refine lv_aload_n hx hb dX7_streets_102 rfl (lv_at hl 0 rfl) ?_
      refine va_get (D := g.1) (ci := 11) (v := .ref (a_ms 0)) (C := RX7) (T := TX7) (N := 20) hx hb hts inX7_streets_X7 hown hE.1 hP 0 rfl rfl 0 (by decide) (gW hts 1 (.fieldLink RX7 9 "SnowDispatcherModel" "s" "[I") rfl) (fun _ h9 => h9) rfl dX7_streets_103 ?_
      refine lv_iconst (v := 1) hx hb dX7_streets_106 (by decide) ?_
      have h6 := hw.1
      have hw := hw.2
      refine va_iald hx hb hE.1 hP 1 0 rfl rfl h6 dX7_streets_107 ?_
      refine lv_istore (lv' := [(5, .int (m_s_93 (1 : Int32).toNatClampNeg)), (0, .ref (a_mo 0)), (1, .int x1), (2, .int x2), (3, .int x3), (4, .int x4)]) hx hb dX7_streets_108 hl (by decide) rfl (fun ls hl => ?_)
      refine lv_aload_n hx hb dX7_streets_110 rfl (lv_at hl 1 rfl) ?_
      refine lv_iload hx hb dX7_streets_111 (lv_at hl 0 rfl) ?_
      refine lv_iconst (v := 0) hx hb dX7_streets_113 (by decide) ?_
      refine lv_iload_n hx hb dX7_streets_114 rfl (lv_at hl 2 rfl) ?_
      refine lv_iload_n hx hb dX7_streets_115 rfl (lv_at hl 3 rfl) ?_
      refine gCi0 (gRunS (As := [.int x1, .int x2]) (rest := [.int 0, .int (m_s_93 (1 : Int32).toNatClampNeg), .ref (a_mo 0)]) ⟨hx, hb, hml, hown, hts⟩ (ctX7_lesser l g _ x1 x2 hw) (va_cwS 2 hts gX7_streets_X7_lesser rfl rfl rfl (by decide +kernel) ⟨Nat.le_of_ble_eq_true rfl, Nat.le_of_ble_eq_true rfl⟩) hE (gSub hP []) (gDSub hD [] rfl) rfl rfl hl.1 rfl (lv_room (Nat.le_of_ble_eq_true rfl)) dX7_streets_116 ⟨Nat.le_of_ble_eq_true rfl, Nat.le_of_ble_eq_true rfl⟩) hP hD hS hA [] rfl rfl rfl (fun r7 H locs hw hP hD hS => ?_)
      have hP : va_P g.1 vwCl (List.flatten [kMo g a_mo a_ms a_mwas a_mtried a_msaved a_mpast a_mfar a_mdrift a_mline a_mtape a_mcommands m_changes m_thrown_v5 m_errorAt m_failedAt m_answer m_isSaved m_lined m_taped m_here m_commandMany, kAr g a_ms 130 m_s_93]) H := hP
      have hD : va_D A (List.flatten [kMo g a_mo a_ms a_mwas a_mtried a_msaved a_mpast a_mfar a_mdrift a_mline a_mtape a_mcommands m_changes m_thrown_v5 m_errorAt m_failedAt m_answer m_isSaved m_lined m_taped m_here m_commandMany, kAr g a_ms 130 m_s_93]) := hD
      refine gCv1 (gRunV (As := [.int (m_s_93 (1 : Int32).toNatClampNeg), .int 0, .int r7]) (rest := []) ⟨hx, hb, hml, hown, hts⟩ (ctX7_sets l g a_mo a_ms a_mwas a_mtried a_msaved a_mpast a_mfar a_mdrift a_mline a_mtape a_mcommands _ m_changes m_thrown_v5 m_errorAt m_failedAt m_answer m_isSaved m_lined m_taped m_here m_commandMany m_s_93 (m_s_93 (1 : Int32).toNatClampNeg) 0 r7 hw) (cwV 3 hts gX7_streets_X7_sets rfl rfl rfl (by decide +kernel) ⟨Nat.le_of_ble_eq_true rfl, Nat.le_of_ble_eq_true rfl⟩) hE (gSub hP [0, 1]) (gDSub hD [0, 1] rfl) 0 11 rfl rfl rfl rfl rfl hl.1 rfl (lv_room (Nat.le_of_ble_eq_true rfl)) dX7_streets_119 ⟨Nat.le_of_ble_eq_true rfl, Nat.le_of_ble_eq_true rfl⟩) hP hD hS hA [0, 1] rfl (fun _ => rfl) rfl (fun m_s_v8 H locs hw hP hD hS => ?_)
      have hP : va_P g.1 vwCl (List.flatten [kMo g a_mo a_ms a_mwas a_mtried a_msaved a_mpast a_mfar a_mdrift a_mline a_mtape a_mcommands m_changes m_thrown_v5 m_errorAt m_failedAt m_answer m_isSaved m_lined m_taped m_here m_commandMany, kAr g a_ms 130 m_s_v8]) H := hP
      have hD : va_D A (List.flatten [kMo g a_mo a_ms a_mwas a_mtried a_msaved a_mpast a_mfar a_mdrift a_mline a_mtape a_mcommands m_changes m_thrown_v5 m_errorAt m_failedAt m_answer m_isSaved m_lined m_taped m_here m_commandMany, kAr g a_ms 130 m_s_v8]) := hD
      refine lv_aload_n hx hb dX7_streets_122 rfl (lv_at hl 1 rfl) ?_
      refine lv_iload hx hb dX7_streets_123 (lv_at hl 0 rfl) ?_
      refine lv_iconst (v := 1) hx hb dX7_streets_125 (by decide) ?_
      refine lv_iload_n hx hb dX7_streets_126 rfl (lv_at hl 2 rfl) ?_
      refine lv_iload_n hx hb dX7_streets_127 rfl (lv_at hl 3 rfl) ?_
      refine gCi0 (gRunS (As := [.int x1, .int x2]) (rest := [.int 1, .int (m_s_93 (1 : Int32).toNatClampNeg), .ref (a_mo 0)]) ⟨hx, hb, hml, hown, hts⟩ (ctX7_greater l g _ x1 x2 hw) (va_cwS 2 hts gX7_streets_X7_greater rfl rfl rfl (by decide +kernel) ⟨Nat.le_of_ble_eq_true rfl, Nat.le_of_ble_eq_true rfl⟩) hE (gSub hP []) (gDSub hD [] rfl) rfl rfl hl.1 rfl (lv_room (Nat.le_of_ble_eq_true rfl)) dX7_streets_128 ⟨Nat.le_of_ble_eq_true rfl, Nat.le_of_ble_eq_true rfl⟩) hP hD hS hA [] rfl rfl rfl (fun r9 H locs hw hP hD hS => ?_)
      have hP : va_P g.1 vwCl (List.flatten [kMo g a_mo a_ms a_mwas a_mtried a_msaved a_mpast a_mfar a_mdrift a_mline a_mtape a_mcommands m_changes m_thrown_v5 m_errorAt m_failedAt m_answer m_isSaved m_lined m_taped m_here m_commandMany, kAr g a_ms 130 m_s_v8]) H := hP
      have hD : va_D A (List.flatten [kMo g a_mo a_ms a_mwas a_mtried a_msaved a_mpast a_mfar a_mdrift a_mline a_mtape a_mcommands m_changes m_thrown_v5 m_errorAt m_failedAt m_answer m_isSaved m_lined m_taped m_here m_commandMany, kAr g a_ms 130 m_s_v8]) := hD
      refine gCv1 (gRunV (As := [.int (m_s_93 (1 : Int32).toNatClampNeg), .int 1, .int r9]) (rest := []) ⟨hx, hb, hml, hown, hts⟩ (ctX7_sets l g a_mo a_ms a_mwas a_mtried a_msaved a_mpast a_mfar a_mdrift a_mline a_mtape a_mcommands _ m_changes m_thrown_v5 m_errorAt m_failedAt m_answer m_isSaved m_lined m_taped m_here m_commandMany m_s_v8 (m_s_93 (1 : Int32).toNatClampNeg) 1 r9 hw) (cwV 3 hts gX7_streets_X7_sets rfl rfl rfl (by decide +kernel) ⟨Nat.le_of_ble_eq_true rfl, Nat.le_of_ble_eq_true rfl⟩) hE (gSub hP [0, 1]) (gDSub hD [0, 1] rfl) 0 11 rfl rfl rfl rfl rfl hl.1 rfl (lv_room (Nat.le_of_ble_eq_true rfl)) dX7_streets_131 ⟨Nat.le_of_ble_eq_true rfl, Nat.le_of_ble_eq_true rfl⟩) hP hD hS hA [0, 1] rfl (fun _ => rfl) rfl (fun m_s_v10 H locs hw hP hD hS => ?_)
      have hP : va_P g.1 vwCl (List.flatten [kMo g a_mo a_ms a_mwas a_mtried a_msaved a_mpast a_mfar a_mdrift a_mline a_mtape a_mcommands m_changes m_thrown_v5 m_errorAt m_failedAt m_answer m_isSaved m_lined m_taped m_here m_commandMany, kAr g a_ms 130 m_s_v10]) H := hP
      have hD : va_D A (List.flatten [kMo g a_mo a_ms a_mwas a_mtried a_msaved a_mpast a_mfar a_mdrift a_mline a_mtape a_mcommands m_changes m_thrown_v5 m_errorAt m_failedAt m_answer m_isSaved m_lined m_taped m_here m_commandMany, kAr g a_ms 130 m_s_v10]) := hD
      refine lv_aload_n hx hb dX7_streets_134 rfl (lv_at hl 1 rfl) ?_
      refine lv_iload hx hb dX7_streets_135 (lv_at hl 0 rfl) ?_
      refine lv_iconst (v := 2) hx hb dX7_streets_137 (by decide) ?_
      refine lv_iload_n hx hb dX7_streets_138 rfl (lv_at hl 4 rfl) ?_
      refine gCv1 (gRunV (As := [.int (m_s_93 (1 : Int32).toNatClampNeg), .int 2, .int x3]) (rest := []) ⟨hx, hb, hml, hown, hts⟩ (ctX7_sets l g a_mo a_ms a_mwas a_mtried a_msaved a_mpast a_mfar a_mdrift a_mline a_mtape a_mcommands _ m_changes m_thrown_v5 m_errorAt m_failedAt m_answer m_isSaved m_lined m_taped m_here m_commandMany m_s_v10 (m_s_93 (1 : Int32).toNatClampNeg) 2 x3 hw) (cwV 3 hts gX7_streets_X7_sets rfl rfl rfl (by decide +kernel) ⟨Nat.le_of_ble_eq_true rfl, Nat.le_of_ble_eq_true rfl⟩) hE (gSub hP [0, 1]) (gDSub hD [0, 1] rfl) 0 11 rfl rfl rfl rfl rfl hl.1 rfl (lv_room (Nat.le_of_ble_eq_true rfl)) dX7_streets_139 ⟨Nat.le_of_ble_eq_true rfl, Nat.le_of_ble_eq_true rfl⟩) hP hD hS hA [0, 1] rfl (fun _ => rfl) rfl (fun m_s_v11 H locs hw hP hD hS => ?_)
      have hP : va_P g.1 vwCl (List.flatten [kMo g a_mo a_ms a_mwas a_mtried a_msaved a_mpast a_mfar a_mdrift a_mline a_mtape a_mcommands m_changes m_thrown_v5 m_errorAt m_failedAt m_answer m_isSaved m_lined m_taped m_here m_commandMany, kAr g a_ms 130 m_s_v11]) H := hP
      have hD : va_D A (List.flatten [kMo g a_mo a_ms a_mwas a_mtried a_msaved a_mpast a_mfar a_mdrift a_mline a_mtape a_mcommands m_changes m_thrown_v5 m_errorAt m_failedAt m_answer m_isSaved m_lined m_taped m_here m_commandMany, kAr g a_ms 130 m_s_v11]) := hD
      refine lv_aload_n hx hb dX7_streets_142 rfl (lv_at hl 1 rfl) ?_
      refine lv_iload hx hb dX7_streets_143 (lv_at hl 0 rfl) ?_
      refine lv_iconst (v := 3) hx hb dX7_streets_145 (by decide) ?_
      refine lv_iload hx hb dX7_streets_146 (lv_at hl 5 rfl) ?_
      refine gCv1 (gRunV (As := [.int (m_s_93 (1 : Int32).toNatClampNeg), .int 3, .int x4]) (rest := []) ⟨hx, hb, hml, hown, hts⟩ (ctX7_sets l g a_mo a_ms a_mwas a_mtried a_msaved a_mpast a_mfar a_mdrift a_mline a_mtape a_mcommands _ m_changes m_thrown_v5 m_errorAt m_failedAt m_answer m_isSaved m_lined m_taped m_here m_commandMany m_s_v11 (m_s_93 (1 : Int32).toNatClampNeg) 3 x4 hw) (cwV 3 hts gX7_streets_X7_sets rfl rfl rfl (by decide +kernel) ⟨Nat.le_of_ble_eq_true rfl, Nat.le_of_ble_eq_true rfl⟩) hE (gSub hP [0, 1]) (gDSub hD [0, 1] rfl) 0 11 rfl rfl rfl rfl rfl hl.1 rfl (lv_room (Nat.le_of_ble_eq_true rfl)) dX7_streets_148 ⟨Nat.le_of_ble_eq_true rfl, Nat.le_of_ble_eq_true rfl⟩) hP hD hS hA [0, 1] rfl (fun _ => rfl) rfl (fun m_s_v12 H locs hw hP hD hS => ?_)
      have hP : va_P g.1 vwCl (List.flatten [kMo g a_mo a_ms a_mwas a_mtried a_msaved a_mpast a_mfar a_mdrift a_mline a_mtape a_mcommands m_changes m_thrown_v5 m_errorAt m_failedAt m_answer m_isSaved m_lined m_taped m_here m_commandMany, kAr g a_ms 130 m_s_v12]) H := hP
      have hD : va_D A (List.flatten [kMo g a_mo a_ms a_mwas a_mtried a_msaved a_mpast a_mfar a_mdrift a_mline a_mtape a_mcommands m_changes m_thrown_v5 m_errorAt m_failedAt m_answer m_isSaved m_lined m_taped m_here m_commandMany, kAr g a_ms 130 m_s_v12]) := hD
      refine lv_aload_n hx hb dX7_streets_151 rfl (lv_at hl 1 rfl) ?_
      refine va_get (D := g.1) (ci := 11) (v := .ref (a_ms 0)) (C := RX7) (T := TX7) (N := 20) hx hb hts inX7_streets_X7 hown hE.1 hP 0 rfl rfl 0 (by decide) (gW hts 1 (.fieldLink RX7 9 "SnowDispatcherModel" "s" "[I") rfl) (fun _ h9 => h9) rfl dX7_streets_152 ?_
      refine lv_iconst (v := 1) hx hb dX7_streets_155 (by decide) ?_
      refine lv_dup2_11 hx hb dX7_streets_156 rfl rfl ?_
      have h13 := hw.1
      have hw := hw.2
      refine va_iald hx hb hE.1 hP 1 0 rfl rfl h13 dX7_streets_157 ?_
      refine lv_iconst (v := 1) hx hb dX7_streets_158 (by decide) ?_
      refine lv_iadd hx hb dX7_streets_159 ?_
      have h14 := hw.1
      have hw := hw.2
      refine va_iast hx hb hE.1 hP hD hS 1 0 rfl rfl h14 dX7_streets_160 (fun H locs hP hD hS => ?_)
      have hP : va_P g.1 vwCl (List.flatten [kMo g a_mo a_ms a_mwas a_mtried a_msaved a_mpast a_mfar a_mdrift a_mline a_mtape a_mcommands m_changes m_thrown_v5 m_errorAt m_failedAt m_answer m_isSaved m_lined m_taped m_here m_commandMany, kAr g a_ms 130 (upd m_s_v12 (1 : Int32).toNatClampNeg ((m_s_v12 (1 : Int32).toNatClampNeg) + 1))]) H := hP
      have hD : va_D A (List.flatten [kMo g a_mo a_ms a_mwas a_mtried a_msaved a_mpast a_mfar a_mdrift a_mline a_mtape a_mcommands m_changes m_thrown_v5 m_errorAt m_failedAt m_answer m_isSaved m_lined m_taped m_here m_commandMany, kAr g a_ms 130 (upd m_s_v12 (1 : Int32).toNatClampNeg ((m_s_v12 (1 : Int32).toNatClampNeg) + 1))]) := hD
      refine lv_iload hx hb dX7_streets_161 (lv_at hl 0 rfl) ?_
      subst hQ
      exact W.iret hx hb hr (gRi2 (c1 := m_thrown_v5) (c2 := (upd m_s_v12 (1 : Int32).toNatClampNeg ((m_s_v12 (1 : Int32).toNatClampNeg) + 1))) (wf := _) hA0 hsz hw hP hD hS) hS.2.2 dX7_streets_163
    · have hw := hw.2 c_97
      refine lv_iconst (v := 0) hx hb dX7_streets_100 (by decide) ?_
      subst hQ
      exact W.iret hx hb hr (gRi2 (c1 := m_thrown_v5) (c2 := m_s_93) (wf := _) hA0 hsz hw hP hD hS) hS.2.2 dX7_streets_101
  have J60 : ∀ (z1_60 : Int32) (m_thrown_60 : Int32) (m_s_60 : Nat → Int32) (H : Heap) (locs : List Loc) (ls : Array Slot), wpX7_streets_L60 x1 x2 x3 x4 post z1_60 m_thrown_60 m_s_60 → va_P g.1 vwCl (List.flatten [kMo g a_mo a_ms a_mwas a_mtried a_msaved a_mpast a_mfar a_mdrift a_mline a_mtape a_mcommands m_changes m_thrown_60 m_errorAt m_failedAt m_answer m_isSaved m_lined m_taped m_here m_commandMany, kAr g a_ms 130 m_s_60]) H → va_D A (List.flatten [kMo g a_mo a_ms a_mwas a_mtried a_msaved a_mpast a_mfar a_mdrift a_mline a_mtape a_mcommands m_changes m_thrown_60 m_errorAt m_failedAt m_answer m_isSaved m_lined m_taped m_here m_commandMany, kAr g a_ms 130 m_s_60]) → va_S A s.heap H locs → lv_has ls 6 [(0, .ref (a_mo 0)), (1, .int x1), (2, .int x2), (3, .int x3), (4, .int x4)] → W p l e rmX7_streets s m (([.ref (a_mo 0), .int x1, .int x2, .int x3, .int x4] : List Value).toArray) below meth c H locs 0 0 Q (F0 m 60 ls [.int z1_60, .ref (a_mo 0)]) := by
    intro z1_60 m_thrown_60 m_s_60 H locs ls hw hP hD hS hl
    refine lv_iconst (v := 2) hx hb dX7_streets_60 (by decide) ?_
    refine gCi1 (gRunV (As := [.int z1_60, .int 2]) (rest := []) ⟨hx, hb, hml, hown, hts⟩ (ctX7_isThrown l g a_mo a_ms a_mwas a_mtried a_msaved a_mpast a_mfar a_mdrift a_mline a_mtape a_mcommands _ m_changes m_thrown_60 m_errorAt m_failedAt m_answer m_isSaved m_lined m_taped m_here m_commandMany z1_60 2 hw) (cwV 2 hts gX7_streets_X7_isThrown rfl rfl rfl (by decide +kernel) ⟨Nat.le_of_ble_eq_true rfl, Nat.le_of_ble_eq_true rfl⟩) hE (gSub hP [0]) (gDSub hD [0] rfl) 0 11 rfl rfl rfl rfl rfl hl.1 rfl (lv_room (Nat.le_of_ble_eq_true rfl)) dX7_streets_61 ⟨Nat.le_of_ble_eq_true rfl, Nat.le_of_ble_eq_true rfl⟩) hP hD hS hA [0] rfl (fun _ => rfl) rfl (fun r3 m_thrown_v3 H locs hw hP hD hS => ?_)
    have hP : va_P g.1 vwCl (List.flatten [kMo g a_mo a_ms a_mwas a_mtried a_msaved a_mpast a_mfar a_mdrift a_mline a_mtape a_mcommands m_changes m_thrown_v3 m_errorAt m_failedAt m_answer m_isSaved m_lined m_taped m_here m_commandMany, kAr g a_ms 130 m_s_60]) H := hP
    have hD : va_D A (List.flatten [kMo g a_mo a_ms a_mwas a_mtried a_msaved a_mpast a_mfar a_mdrift a_mline a_mtape a_mcommands m_changes m_thrown_v3 m_errorAt m_failedAt m_answer m_isSaved m_lined m_taped m_here m_commandMany, kAr g a_ms 130 m_s_60]) := hD
    refine lv_if_ne (tgt := 100) hx hb dX7_streets_64 (by decide) (fun c_64 => ?_) (fun c_64 => ?_)
    · have hw := hw.1 c_64
      refine lv_iconst (v := 0) hx hb dX7_streets_100 (by decide) ?_
      subst hQ
      exact W.iret hx hb hr (gRi2 (c1 := m_thrown_v3) (c2 := m_s_60) (wf := _) hA0 hsz hw hP hD hS) hS.2.2 dX7_streets_101
    · have hw := hw.2 c_64
      refine lv_aload_n hx hb dX7_streets_67 rfl (lv_at hl 0 rfl) ?_
      refine lv_aload_n hx hb dX7_streets_68 rfl (lv_at hl 0 rfl) ?_
      refine va_get (D := g.1) (ci := 11) (v := .ref (a_ms 0)) (C := RX7) (T := TX7) (N := 20) hx hb hts inX7_streets_X7 hown hE.1 hP 0 rfl rfl 0 (by decide) (gW hts 1 (.fieldLink RX7 9 "SnowDispatcherModel" "s" "[I") rfl) (fun _ h9 => h9) rfl dX7_streets_69 ?_
      refine lv_iconst (v := 1) hx hb dX7_streets_72 (by decide) ?_
      have h4 := hw.1
      have hw := hw.2
      refine va_iald hx hb hE.1 hP 1 0 rfl rfl h4 dX7_streets_73 ?_
      refine lv_bipush (v := 12) hx hb dX7_streets_74 (by decide) ?_
      refine lv_icmp_eq (tgt := 88) hx hb dX7_streets_76 (by decide) (fun c_76 => ?_) (fun c_76 => ?_)
      · have hw := hw.1 c_76
        refine lv_iconst (v := 1) hx hb dX7_streets_88 (by decide) ?_
        refine lv_goto (tgt := 93) hx hb dX7_streets_89 (by decide) ?_
        exact J93 1 m_thrown_v3 m_s_60 _ _ _ hw hP hD hS (lv_sub hl [0, 1, 2, 3, 4] rfl)
      · have hw := hw.2 c_76
        refine lv_aload_n hx hb dX7_streets_79 rfl (lv_at hl 0 rfl) ?_
        refine lv_iload_n hx hb dX7_streets_80 rfl (lv_at hl 1 rfl) ?_
        refine lv_iload_n hx hb dX7_streets_81 rfl (lv_at hl 2 rfl) ?_
        refine gCi0 (gRunV (As := [.int x1, .int x2]) (rest := [.ref (a_mo 0)]) ⟨hx, hb, hml, hown, hts⟩ (ctX7_joins l g a_mo a_ms a_mwas a_mtried a_msaved a_mpast a_mfar a_mdrift a_mline a_mtape a_mcommands _ m_changes m_thrown_v3 m_errorAt m_failedAt m_answer m_isSaved m_lined m_taped m_here m_commandMany m_s_60 x1 x2 hw) (cwV 2 hts gX7_streets_X7_joins rfl rfl rfl (by decide +kernel) ⟨Nat.le_of_ble_eq_true rfl, Nat.le_of_ble_eq_true rfl⟩) hE (gSub hP [0, 1]) (gDSub hD [0, 1] rfl) 0 11 rfl rfl rfl rfl rfl hl.1 rfl (lv_room (Nat.le_of_ble_eq_true rfl)) dX7_streets_82 ⟨Nat.le_of_ble_eq_true rfl, Nat.le_of_ble_eq_true rfl⟩) hP hD hS hA [0, 1] rfl rfl rfl (fun r15 H locs hw hP hD hS => ?_)
        have hP : va_P g.1 vwCl (List.flatten [kMo g a_mo a_ms a_mwas a_mtried a_msaved a_mpast a_mfar a_mdrift a_mline a_mtape a_mcommands m_changes m_thrown_v3 m_errorAt m_failedAt m_answer m_isSaved m_lined m_taped m_here m_commandMany, kAr g a_ms 130 m_s_60]) H := hP
        have hD : va_D A (List.flatten [kMo g a_mo a_ms a_mwas a_mtried a_msaved a_mpast a_mfar a_mdrift a_mline a_mtape a_mcommands m_changes m_thrown_v3 m_errorAt m_failedAt m_answer m_isSaved m_lined m_taped m_here m_commandMany, kAr g a_ms 130 m_s_60]) := hD
        refine lv_if_eq (tgt := 92) hx hb dX7_streets_85 (by decide) (fun c_85 => ?_) (fun c_85 => ?_)
        · have hw := hw.1 c_85
          refine lv_iconst (v := 0) hx hb dX7_streets_92 (by decide) ?_
          exact J93 0 m_thrown_v3 m_s_60 _ _ _ hw hP hD hS (lv_sub hl [0, 1, 2, 3, 4] rfl)
        · have hw := hw.2 c_85
          refine lv_iconst (v := 1) hx hb dX7_streets_88 (by decide) ?_
          refine lv_goto (tgt := 93) hx hb dX7_streets_89 (by decide) ?_
          exact J93 1 m_thrown_v3 m_s_60 _ _ _ hw hP hD hS (lv_sub hl [0, 1, 2, 3, 4] rfl)
  have J20 : ∀ (z1_20 : Int32) (m_thrown_20 : Int32) (m_s_20 : Nat → Int32) (H : Heap) (locs : List Loc) (ls : Array Slot), wpX7_streets_L20 x1 x2 x3 x4 post z1_20 m_thrown_20 m_s_20 → va_P g.1 vwCl (List.flatten [kMo g a_mo a_ms a_mwas a_mtried a_msaved a_mpast a_mfar a_mdrift a_mline a_mtape a_mcommands m_changes m_thrown_20 m_errorAt m_failedAt m_answer m_isSaved m_lined m_taped m_here m_commandMany, kAr g a_ms 130 m_s_20]) H → va_D A (List.flatten [kMo g a_mo a_ms a_mwas a_mtried a_msaved a_mpast a_mfar a_mdrift a_mline a_mtape a_mcommands m_changes m_thrown_20 m_errorAt m_failedAt m_answer m_isSaved m_lined m_taped m_here m_commandMany, kAr g a_ms 130 m_s_20]) → va_S A s.heap H locs → lv_has ls 6 [(0, .ref (a_mo 0)), (1, .int x1), (2, .int x2), (3, .int x3), (4, .int x4)] → W p l e rmX7_streets s m (([.ref (a_mo 0), .int x1, .int x2, .int x3, .int x4] : List Value).toArray) below meth c H locs 0 0 Q (F0 m 20 ls [.int z1_20, .ref (a_mo 0)]) := by
    intro z1_20 m_thrown_20 m_s_20 H locs ls hw hP hD hS hl
    refine lv_iconst (v := 1) hx hb dX7_streets_20 (by decide) ?_
    refine gCi1 (gRunV (As := [.int z1_20, .int 1]) (rest := []) ⟨hx, hb, hml, hown, hts⟩ (ctX7_isThrown l g a_mo a_ms a_mwas a_mtried a_msaved a_mpast a_mfar a_mdrift a_mline a_mtape a_mcommands _ m_changes m_thrown_20 m_errorAt m_failedAt m_answer m_isSaved m_lined m_taped m_here m_commandMany z1_20 1 hw) (cwV 2 hts gX7_streets_X7_isThrown rfl rfl rfl (by decide +kernel) ⟨Nat.le_of_ble_eq_true rfl, Nat.le_of_ble_eq_true rfl⟩) hE (gSub hP [0]) (gDSub hD [0] rfl) 0 11 rfl rfl rfl rfl rfl hl.1 rfl (lv_room (Nat.le_of_ble_eq_true rfl)) dX7_streets_21 ⟨Nat.le_of_ble_eq_true rfl, Nat.le_of_ble_eq_true rfl⟩) hP hD hS hA [0] rfl (fun _ => rfl) rfl (fun r2 m_thrown_v2 H locs hw hP hD hS => ?_)
    have hP : va_P g.1 vwCl (List.flatten [kMo g a_mo a_ms a_mwas a_mtried a_msaved a_mpast a_mfar a_mdrift a_mline a_mtape a_mcommands m_changes m_thrown_v2 m_errorAt m_failedAt m_answer m_isSaved m_lined m_taped m_here m_commandMany, kAr g a_ms 130 m_s_20]) H := hP
    have hD : va_D A (List.flatten [kMo g a_mo a_ms a_mwas a_mtried a_msaved a_mpast a_mfar a_mdrift a_mline a_mtape a_mcommands m_changes m_thrown_v2 m_errorAt m_failedAt m_answer m_isSaved m_lined m_taped m_here m_commandMany, kAr g a_ms 130 m_s_20]) := hD
    refine lv_if_ne (tgt := 100) hx hb dX7_streets_24 (by decide) (fun c_24 => ?_) (fun c_24 => ?_)
    · have hw := hw.1 c_24
      refine lv_iconst (v := 0) hx hb dX7_streets_100 (by decide) ?_
      subst hQ
      exact W.iret hx hb hr (gRi2 (c1 := m_thrown_v2) (c2 := m_s_20) (wf := _) hA0 hsz hw hP hD hS) hS.2.2 dX7_streets_101
    · have hw := hw.2 c_24
      refine lv_aload_n hx hb dX7_streets_27 rfl (lv_at hl 0 rfl) ?_
      refine lv_iload_n hx hb dX7_streets_28 rfl (lv_at hl 1 rfl) ?_
      refine lv_iload_n hx hb dX7_streets_29 rfl (lv_at hl 2 rfl) ?_
      refine lv_icmp_eq (tgt := 55) hx hb dX7_streets_30 (by decide) (fun c_30 => ?_) (fun c_30 => ?_)
      · have hw := hw.1 c_30
        refine lv_iconst (v := 1) hx hb dX7_streets_55 (by decide) ?_
        refine lv_goto (tgt := 60) hx hb dX7_streets_56 (by decide) ?_
        exact J60 1 m_thrown_v2 m_s_20 _ _ _ hw hP hD hS (lv_sub hl [0, 1, 2, 3, 4] rfl)
      · have hw := hw.2 c_30
        refine lv_iload_n hx hb dX7_streets_33 rfl (lv_at hl 3 rfl) ?_
        refine lv_bipush (v := 97) hx hb dX7_streets_34 (by decide) ?_
        refine lv_bipush (v := 99) hx hb dX7_streets_36 (by decide) ?_
        refine gCi0 (gRunS (As := [.int x3, .int 97, .int 99]) (rest := [.ref (a_mo 0)]) ⟨hx, hb, hml, hown, hts⟩ (ctX7_isIn l g _ x3 97 99 hw) (va_cwS 3 hts gX7_streets_X7_isIn rfl rfl rfl (by decide +kernel) ⟨Nat.le_of_ble_eq_true rfl, Nat.le_of_ble_eq_true rfl⟩) hE (gSub hP []) (gDSub hD [] rfl) rfl rfl hl.1 rfl (lv_room (Nat.le_of_ble_eq_true rfl)) dX7_streets_38 ⟨Nat.le_of_ble_eq_true rfl, Nat.le_of_ble_eq_true rfl⟩) hP hD hS hA [] rfl rfl rfl (fun r16 H locs hw hP hD hS => ?_)
        have hP : va_P g.1 vwCl (List.flatten [kMo g a_mo a_ms a_mwas a_mtried a_msaved a_mpast a_mfar a_mdrift a_mline a_mtape a_mcommands m_changes m_thrown_v2 m_errorAt m_failedAt m_answer m_isSaved m_lined m_taped m_here m_commandMany, kAr g a_ms 130 m_s_20]) H := hP
        have hD : va_D A (List.flatten [kMo g a_mo a_ms a_mwas a_mtried a_msaved a_mpast a_mfar a_mdrift a_mline a_mtape a_mcommands m_changes m_thrown_v2 m_errorAt m_failedAt m_answer m_isSaved m_lined m_taped m_here m_commandMany, kAr g a_ms 130 m_s_20]) := hD
        refine lv_if_eq (tgt := 55) hx hb dX7_streets_41 (by decide) (fun c_41 => ?_) (fun c_41 => ?_)
        · have hw := hw.1 c_41
          refine lv_iconst (v := 1) hx hb dX7_streets_55 (by decide) ?_
          refine lv_goto (tgt := 60) hx hb dX7_streets_56 (by decide) ?_
          exact J60 1 m_thrown_v2 m_s_20 _ _ _ hw hP hD hS (lv_sub hl [0, 1, 2, 3, 4] rfl)
        · have hw := hw.2 c_41
          refine lv_iload hx hb dX7_streets_44 (lv_at hl 4 rfl) ?_
          refine lv_iconst (v := 1) hx hb dX7_streets_46 (by decide) ?_
          refine lv_bipush (v := 9) hx hb dX7_streets_47 (by decide) ?_
          refine gCi0 (gRunS (As := [.int x4, .int 1, .int 9]) (rest := [.ref (a_mo 0)]) ⟨hx, hb, hml, hown, hts⟩ (ctX7_isIn l g _ x4 1 9 hw) (va_cwS 3 hts gX7_streets_X7_isIn rfl rfl rfl (by decide +kernel) ⟨Nat.le_of_ble_eq_true rfl, Nat.le_of_ble_eq_true rfl⟩) hE (gSub hP []) (gDSub hD [] rfl) rfl rfl hl.1 rfl (lv_room (Nat.le_of_ble_eq_true rfl)) dX7_streets_49 ⟨Nat.le_of_ble_eq_true rfl, Nat.le_of_ble_eq_true rfl⟩) hP hD hS hA [] rfl rfl rfl (fun r17 H locs hw hP hD hS => ?_)
          have hP : va_P g.1 vwCl (List.flatten [kMo g a_mo a_ms a_mwas a_mtried a_msaved a_mpast a_mfar a_mdrift a_mline a_mtape a_mcommands m_changes m_thrown_v2 m_errorAt m_failedAt m_answer m_isSaved m_lined m_taped m_here m_commandMany, kAr g a_ms 130 m_s_20]) H := hP
          have hD : va_D A (List.flatten [kMo g a_mo a_ms a_mwas a_mtried a_msaved a_mpast a_mfar a_mdrift a_mline a_mtape a_mcommands m_changes m_thrown_v2 m_errorAt m_failedAt m_answer m_isSaved m_lined m_taped m_here m_commandMany, kAr g a_ms 130 m_s_20]) := hD
          refine lv_if_ne (tgt := 59) hx hb dX7_streets_52 (by decide) (fun c_52 => ?_) (fun c_52 => ?_)
          · have hw := hw.1 c_52
            refine lv_iconst (v := 0) hx hb dX7_streets_59 (by decide) ?_
            exact J60 0 m_thrown_v2 m_s_20 _ _ _ hw hP hD hS (lv_sub hl [0, 1, 2, 3, 4] rfl)
          · have hw := hw.2 c_52
            refine lv_iconst (v := 1) hx hb dX7_streets_55 (by decide) ?_
            refine lv_goto (tgt := 60) hx hb dX7_streets_56 (by decide) ?_
            exact J60 1 m_thrown_v2 m_s_20 _ _ _ hw hP hD hS (lv_sub hl [0, 1, 2, 3, 4] rfl)
  refine lv_aload_n hx hb dX7_streets_0 rfl (lv_at hl 0 rfl) ?_
  refine lv_iload_n hx hb dX7_streets_1 rfl (lv_at hl 1 rfl) ?_
  refine gCi0 (gRunS (As := [.int x1]) (rest := [.ref (a_mo 0)]) ⟨hx, hb, hml, hown, hts⟩ (ctX7_isJunction l g _ x1 hw) (va_cwS 1 hts gX7_streets_X7_isJunction rfl rfl rfl (by decide +kernel) ⟨Nat.le_of_ble_eq_true rfl, Nat.le_of_ble_eq_true rfl⟩) hE (gSub hP []) (gDSub hD [] rfl) rfl rfl hl.1 rfl (lv_room (Nat.le_of_ble_eq_true rfl)) dX7_streets_2 ⟨Nat.le_of_ble_eq_true rfl, Nat.le_of_ble_eq_true rfl⟩) hP hD hS hA [] rfl rfl rfl (fun r1 H locs hw hP hD hS => ?_)
  have hP : va_P g.1 vwCl (List.flatten [kMo g a_mo a_ms a_mwas a_mtried a_msaved a_mpast a_mfar a_mdrift a_mline a_mtape a_mcommands m_changes m_thrown m_errorAt m_failedAt m_answer m_isSaved m_lined m_taped m_here m_commandMany, kAr g a_ms 130 m_s]) H := hP
  have hD : va_D A (List.flatten [kMo g a_mo a_ms a_mwas a_mtried a_msaved a_mpast a_mfar a_mdrift a_mline a_mtape a_mcommands m_changes m_thrown m_errorAt m_failedAt m_answer m_isSaved m_lined m_taped m_here m_commandMany, kAr g a_ms 130 m_s]) := hD
  refine lv_if_eq (tgt := 15) hx hb dX7_streets_5 (by decide) (fun c_5 => ?_) (fun c_5 => ?_)
  · have hw := hw.1 c_5
    refine lv_iconst (v := 1) hx hb dX7_streets_15 (by decide) ?_
    refine lv_goto (tgt := 20) hx hb dX7_streets_16 (by decide) ?_
    exact J20 1 m_thrown m_s _ _ _ hw hP hD hS (lv_sub hl [0, 1, 2, 3, 4] rfl)
  · have hw := hw.2 c_5
    refine lv_iload_n hx hb dX7_streets_8 rfl (lv_at hl 2 rfl) ?_
    refine gCi0 (gRunS (As := [.int x2]) (rest := [.ref (a_mo 0)]) ⟨hx, hb, hml, hown, hts⟩ (ctX7_isJunction l g _ x2 hw) (va_cwS 1 hts gX7_streets_X7_isJunction rfl rfl rfl (by decide +kernel) ⟨Nat.le_of_ble_eq_true rfl, Nat.le_of_ble_eq_true rfl⟩) hE (gSub hP []) (gDSub hD [] rfl) rfl rfl hl.1 rfl (lv_room (Nat.le_of_ble_eq_true rfl)) dX7_streets_9 ⟨Nat.le_of_ble_eq_true rfl, Nat.le_of_ble_eq_true rfl⟩) hP hD hS hA [] rfl rfl rfl (fun r18 H locs hw hP hD hS => ?_)
    have hP : va_P g.1 vwCl (List.flatten [kMo g a_mo a_ms a_mwas a_mtried a_msaved a_mpast a_mfar a_mdrift a_mline a_mtape a_mcommands m_changes m_thrown m_errorAt m_failedAt m_answer m_isSaved m_lined m_taped m_here m_commandMany, kAr g a_ms 130 m_s]) H := hP
    have hD : va_D A (List.flatten [kMo g a_mo a_ms a_mwas a_mtried a_msaved a_mpast a_mfar a_mdrift a_mline a_mtape a_mcommands m_changes m_thrown m_errorAt m_failedAt m_answer m_isSaved m_lined m_taped m_here m_commandMany, kAr g a_ms 130 m_s]) := hD
    refine lv_if_ne (tgt := 19) hx hb dX7_streets_12 (by decide) (fun c_12 => ?_) (fun c_12 => ?_)
    · have hw := hw.1 c_12
      refine lv_iconst (v := 0) hx hb dX7_streets_19 (by decide) ?_
      exact J20 0 m_thrown m_s _ _ _ hw hP hD hS (lv_sub hl [0, 1, 2, 3, 4] rfl)
    · have hw := hw.2 c_12
      refine lv_iconst (v := 1) hx hb dX7_streets_15 (by decide) ?_
      refine lv_goto (tgt := 20) hx hb dX7_streets_16 (by decide) ?_
      exact J20 1 m_thrown m_s _ _ _ hw hP hD hS (lv_sub hl [0, 1, 2, 3, 4] rfl)
abbrev rmX7_addStreet : Room := { frames := 4, cells := 0, slots := 0, locals := 173 }
set_option maxRecDepth 20000 in
theorem inX7_addStreet_X7 : ∀ w ∈ wsX70, w ∈ wsX7_addStreet := by decide +kernel
set_option maxHeartbeats 4000000 in
set_option maxRecDepth 100000 in
theorem ctX7_addStreet (l : Launch) (g : GG) (a_mo : Nat → Nat) (a_ms : Nat → Nat) (a_mwas : Nat → Nat) (a_mtried : Nat → Nat) (a_msaved : Nat → Nat) (a_mpast : Nat → Nat) (a_mfar : Nat → Nat) (a_mdrift : Nat → Nat) (a_mline : Nat → Nat) (a_mtape : Nat → Nat) (a_mcommands : Nat → Nat) (sz : Nat) (m_changes : Int32) (m_thrown : Int32) (m_errorAt : Int32) (m_failedAt : Int32) (m_answer : Int32) (m_isSaved : Int32) (m_lined : Int32) (m_taped : Int32) (m_here : Int32) (m_commandMany : Int32) (m_s : Nat → Int32) (m_was : Nat → Int32) (m_past : Nat → Int32) (x1 : Int32) (x2 : Int32) (x3 : Int32) (x4 : Int32) {post : Int32 → Int32 → Int32 → (Nat → Int32) → (Nat → Int32) → (Nat → Int32) → Prop} (hw : wpX7_addStreet x1 x2 x3 x4 m_changes m_thrown m_s m_was m_past post) :
    Met l yX7_addStreet wsX7_addStreet rmX7_addStreet (gPc g sz (List.flatten [kMo g a_mo a_ms a_mwas a_mtried a_msaved a_mpast a_mfar a_mdrift a_mline a_mtape a_mcommands m_changes m_thrown m_errorAt m_failedAt m_answer m_isSaved m_lined m_taped m_here m_commandMany, kAr g a_ms 130 m_s, kAr g a_mwas 130 m_was, kAr g a_mpast 1040 m_past]) [.ref (a_mo 0), .int x1, .int x2, .int x3, .int x4]) (gQi5 post (fun u1 u2 u3 u4 u5 => gB g (List.flatten [kMo g a_mo a_ms a_mwas a_mtried a_msaved a_mpast a_mfar a_mdrift a_mline a_mtape a_mcommands m_changes m_thrown m_errorAt m_failedAt m_answer m_isSaved m_lined m_taped m_here m_commandMany, kAr g a_ms 130 m_s, kAr g a_mwas 130 m_was, kAr g a_mpast 1040 m_past]) sz (List.flatten [kMo g a_mo a_ms a_mwas a_mtried a_msaved a_mpast a_mfar a_mdrift a_mline a_mtape a_mcommands u1 u2 m_errorAt m_failedAt m_answer m_isSaved m_lined m_taped m_here m_commandMany, kAr g a_ms 130 u3, kAr g a_mwas 130 u4, kAr g a_mpast 1040 u5])) (va_A (List.flatten [kMo g a_mo a_ms a_mwas a_mtried a_msaved a_mpast a_mfar a_mdrift a_mline a_mtape a_mcommands m_changes m_thrown m_errorAt m_failedAt m_answer m_isSaved m_lined m_taped m_here m_commandMany, kAr g a_ms 130 m_s, kAr g a_mwas 130 m_was, kAr g a_mpast 1040 m_past]) sz)) 0 0 (va_A (List.flatten [kMo g a_mo a_ms a_mwas a_mtried a_msaved a_mpast a_mfar a_mdrift a_mline a_mtape a_mcommands m_changes m_thrown m_errorAt m_failedAt m_answer m_isSaved m_lined m_taped m_here m_commandMany, kAr g a_ms 130 m_s, kAr g a_mwas 130 m_was, kAr g a_mpast 1040 m_past]) sz) := by
  refine gOf (cc := cX7_addStreet) (maxL := 5) (ret := (some .int)) (by decide) rfl (Nat.le_of_ble_eq_true rfl) ?_
  intro p e s m below meth c ls Q A hQ hx hb hr hml hts hown hlocks hE hA0 hsz hP hD hA hS hl
  have hl : lv_has ls 5 [(0, .ref (a_mo 0)), (1, .int x1), (2, .int x2), (3, .int x3), (4, .int x4)] := hl
  refine lv_aload_n hx hb dX7_addStreet_0 rfl (lv_at hl 0 rfl) ?_
  refine gCv2 (gRunV (As := []) (rest := []) ⟨hx, hb, hml, hown, hts⟩ (ctX7_keeps l g a_mo a_ms a_mwas a_mtried a_msaved a_mpast a_mfar a_mdrift a_mline a_mtape a_mcommands _ m_changes m_thrown m_errorAt m_failedAt m_answer m_isSaved m_lined m_taped m_here m_commandMany m_s m_was hw) (cwV 0 hts gX7_addStreet_X7_keeps rfl rfl rfl (by decide +kernel) ⟨Nat.le_of_ble_eq_true rfl, Nat.le_of_ble_eq_true rfl⟩) hE (gSub hP [0, 1, 2]) (gDSub hD [0, 1, 2] rfl) 0 11 rfl rfl rfl rfl rfl hl.1 rfl (lv_room (Nat.le_of_ble_eq_true rfl)) dX7_addStreet_1 ⟨Nat.le_of_ble_eq_true rfl, Nat.le_of_ble_eq_true rfl⟩) hP hD hS hA [0, 1, 2] rfl (fun _ _ => rfl) rfl (fun m_thrown_v1 m_was_v1 H locs hw hP hD hS => ?_)
  have hP : va_P g.1 vwCl (List.flatten [kMo g a_mo a_ms a_mwas a_mtried a_msaved a_mpast a_mfar a_mdrift a_mline a_mtape a_mcommands m_changes m_thrown_v1 m_errorAt m_failedAt m_answer m_isSaved m_lined m_taped m_here m_commandMany, kAr g a_ms 130 m_s, kAr g a_mwas 130 m_was_v1, kAr g a_mpast 1040 m_past]) H := hP
  have hD : va_D A (List.flatten [kMo g a_mo a_ms a_mwas a_mtried a_msaved a_mpast a_mfar a_mdrift a_mline a_mtape a_mcommands m_changes m_thrown_v1 m_errorAt m_failedAt m_answer m_isSaved m_lined m_taped m_here m_commandMany, kAr g a_ms 130 m_s, kAr g a_mwas 130 m_was_v1, kAr g a_mpast 1040 m_past]) := hD
  refine lv_aload_n hx hb dX7_addStreet_4 rfl (lv_at hl 0 rfl) ?_
  refine lv_aload_n hx hb dX7_addStreet_5 rfl (lv_at hl 0 rfl) ?_
  refine lv_iload_n hx hb dX7_addStreet_6 rfl (lv_at hl 1 rfl) ?_
  refine lv_iload_n hx hb dX7_addStreet_7 rfl (lv_at hl 2 rfl) ?_
  refine lv_iload_n hx hb dX7_addStreet_8 rfl (lv_at hl 3 rfl) ?_
  refine lv_iload hx hb dX7_addStreet_9 (lv_at hl 4 rfl) ?_
  refine gCi2 (gRunV (As := [.int x1, .int x2, .int x3, .int x4]) (rest := [.ref (a_mo 0)]) ⟨hx, hb, hml, hown, hts⟩ (ctX7_streets l g a_mo a_ms a_mwas a_mtried a_msaved a_mpast a_mfar a_mdrift a_mline a_mtape a_mcommands _ m_changes m_thrown_v1 m_errorAt m_failedAt m_answer m_isSaved m_lined m_taped m_here m_commandMany m_s x1 x2 x3 x4 hw) (cwV 4 hts gX7_addStreet_X7_streets rfl rfl rfl (by decide +kernel) ⟨Nat.le_of_ble_eq_true rfl, Nat.le_of_ble_eq_true rfl⟩) hE (gSub hP [0, 1]) (gDSub hD [0, 1] rfl) 0 11 rfl rfl rfl rfl rfl hl.1 rfl (lv_room (Nat.le_of_ble_eq_true rfl)) dX7_addStreet_11 ⟨Nat.le_of_ble_eq_true rfl, Nat.le_of_ble_eq_true rfl⟩) hP hD hS hA [0, 1] rfl (fun _ _ => rfl) rfl (fun r2 m_thrown_v2 m_s_v2 H locs hw hP hD hS => ?_)
  have hP : va_P g.1 vwCl (List.flatten [kMo g a_mo a_ms a_mwas a_mtried a_msaved a_mpast a_mfar a_mdrift a_mline a_mtape a_mcommands m_changes m_thrown_v2 m_errorAt m_failedAt m_answer m_isSaved m_lined m_taped m_here m_commandMany, kAr g a_ms 130 m_s_v2, kAr g a_mwas 130 m_was_v1, kAr g a_mpast 1040 m_past]) H := hP
  have hD : va_D A (List.flatten [kMo g a_mo a_ms a_mwas a_mtried a_msaved a_mpast a_mfar a_mdrift a_mline a_mtape a_mcommands m_changes m_thrown_v2 m_errorAt m_failedAt m_answer m_isSaved m_lined m_taped m_here m_commandMany, kAr g a_ms 130 m_s_v2, kAr g a_mwas 130 m_was_v1, kAr g a_mpast 1040 m_past]) := hD
  refine gCi2 (gRunV (As := [.int r2]) (rest := []) ⟨hx, hb, hml, hown, hts⟩ (ctX7_ends l g a_mo a_ms a_mwas a_mtried a_msaved a_mpast a_mfar a_mdrift a_mline a_mtape a_mcommands _ m_changes m_thrown_v2 m_errorAt m_failedAt m_answer m_isSaved m_lined m_taped m_here m_commandMany m_was_v1 m_past r2 hw) (cwV 1 hts gX7_addStreet_X7_ends rfl rfl rfl (by decide +kernel) ⟨Nat.le_of_ble_eq_true rfl, Nat.le_of_ble_eq_true rfl⟩) hE (gSub hP [0, 2, 3]) (gDSub hD [0, 2, 3] rfl) 0 11 rfl rfl rfl rfl rfl hl.1 rfl (lv_room (Nat.le_of_ble_eq_true rfl)) dX7_addStreet_14 ⟨Nat.le_of_ble_eq_true rfl, Nat.le_of_ble_eq_true rfl⟩) hP hD hS hA [0, 2, 3] rfl (fun _ _ => rfl) rfl (fun r3 m_changes_v3 m_past_v3 H locs hw hP hD hS => ?_)
  have hP : va_P g.1 vwCl (List.flatten [kMo g a_mo a_ms a_mwas a_mtried a_msaved a_mpast a_mfar a_mdrift a_mline a_mtape a_mcommands m_changes_v3 m_thrown_v2 m_errorAt m_failedAt m_answer m_isSaved m_lined m_taped m_here m_commandMany, kAr g a_ms 130 m_s_v2, kAr g a_mwas 130 m_was_v1, kAr g a_mpast 1040 m_past_v3]) H := hP
  have hD : va_D A (List.flatten [kMo g a_mo a_ms a_mwas a_mtried a_msaved a_mpast a_mfar a_mdrift a_mline a_mtape a_mcommands m_changes_v3 m_thrown_v2 m_errorAt m_failedAt m_answer m_isSaved m_lined m_taped m_here m_commandMany, kAr g a_ms 130 m_s_v2, kAr g a_mwas 130 m_was_v1, kAr g a_mpast 1040 m_past_v3]) := hD
  subst hQ
  exact W.iret hx hb hr (gRi5 (c1 := m_changes_v3) (c2 := m_thrown_v2) (c3 := m_s_v2) (c4 := m_was_v1) (c5 := m_past_v3) (wf := _) hA0 hsz hw hP hD hS) hS.2.2 dX7_addStreet_17
abbrev rmX7_ploughs : Room := { frames := 3, cells := 0, slots := 0, locals := 144 }
set_option maxRecDepth 20000 in
theorem inX7_ploughs_X7 : ∀ w ∈ wsX70, w ∈ wsX7_ploughs := by decide +kernel
set_option maxHeartbeats 4000000 in
set_option maxRecDepth 100000 in
theorem ctX7_ploughs (l : Launch) (g : GG) (a_mo : Nat → Nat) (a_ms : Nat → Nat) (a_mwas : Nat → Nat) (a_mtried : Nat → Nat) (a_msaved : Nat → Nat) (a_mpast : Nat → Nat) (a_mfar : Nat → Nat) (a_mdrift : Nat → Nat) (a_mline : Nat → Nat) (a_mtape : Nat → Nat) (a_mcommands : Nat → Nat) (sz : Nat) (m_changes : Int32) (m_thrown : Int32) (m_errorAt : Int32) (m_failedAt : Int32) (m_answer : Int32) (m_isSaved : Int32) (m_lined : Int32) (m_taped : Int32) (m_here : Int32) (m_commandMany : Int32) (m_s : Nat → Int32) (x1 : Int32) {post : Int32 → Int32 → (Nat → Int32) → Prop} (hw : wpX7_ploughs x1 m_thrown m_s post) :
    Met l yX7_ploughs wsX7_ploughs rmX7_ploughs (gPc g sz (List.flatten [kMo g a_mo a_ms a_mwas a_mtried a_msaved a_mpast a_mfar a_mdrift a_mline a_mtape a_mcommands m_changes m_thrown m_errorAt m_failedAt m_answer m_isSaved m_lined m_taped m_here m_commandMany, kAr g a_ms 130 m_s]) [.ref (a_mo 0), .int x1]) (gQi2 post (fun u1 u2 => gB g (List.flatten [kMo g a_mo a_ms a_mwas a_mtried a_msaved a_mpast a_mfar a_mdrift a_mline a_mtape a_mcommands m_changes m_thrown m_errorAt m_failedAt m_answer m_isSaved m_lined m_taped m_here m_commandMany, kAr g a_ms 130 m_s]) sz (List.flatten [kMo g a_mo a_ms a_mwas a_mtried a_msaved a_mpast a_mfar a_mdrift a_mline a_mtape a_mcommands m_changes u1 m_errorAt m_failedAt m_answer m_isSaved m_lined m_taped m_here m_commandMany, kAr g a_ms 130 u2])) (va_A (List.flatten [kMo g a_mo a_ms a_mwas a_mtried a_msaved a_mpast a_mfar a_mdrift a_mline a_mtape a_mcommands m_changes m_thrown m_errorAt m_failedAt m_answer m_isSaved m_lined m_taped m_here m_commandMany, kAr g a_ms 130 m_s]) sz)) 0 0 (va_A (List.flatten [kMo g a_mo a_ms a_mwas a_mtried a_msaved a_mpast a_mfar a_mdrift a_mline a_mtape a_mcommands m_changes m_thrown m_errorAt m_failedAt m_answer m_isSaved m_lined m_taped m_here m_commandMany, kAr g a_ms 130 m_s]) sz) := by
  refine gOf (cc := cX7_ploughs) (maxL := 2) (ret := (some .int)) (by decide) rfl (Nat.le_of_ble_eq_true rfl) ?_
  intro p e s m below meth c ls Q A hQ hx hb hr hml hts hown hlocks hE hA0 hsz hP hD hA hS hl
  have hl : lv_has ls 2 [(0, .ref (a_mo 0)), (1, .int x1)] := hl
  have J36 : ∀ (z1_36 : Int32) (m_thrown_36 : Int32) (m_s_36 : Nat → Int32) (H : Heap) (locs : List Loc) (ls : Array Slot), wpX7_ploughs_L36 x1 post z1_36 m_thrown_36 m_s_36 → va_P g.1 vwCl (List.flatten [kMo g a_mo a_ms a_mwas a_mtried a_msaved a_mpast a_mfar a_mdrift a_mline a_mtape a_mcommands m_changes m_thrown_36 m_errorAt m_failedAt m_answer m_isSaved m_lined m_taped m_here m_commandMany, kAr g a_ms 130 m_s_36]) H → va_D A (List.flatten [kMo g a_mo a_ms a_mwas a_mtried a_msaved a_mpast a_mfar a_mdrift a_mline a_mtape a_mcommands m_changes m_thrown_36 m_errorAt m_failedAt m_answer m_isSaved m_lined m_taped m_here m_commandMany, kAr g a_ms 130 m_s_36]) → va_S A s.heap H locs → lv_has ls 2 [(0, .ref (a_mo 0)), (1, .int x1)] → W p l e rmX7_ploughs s m (([.ref (a_mo 0), .int x1] : List Value).toArray) below meth c H locs 0 0 Q (F0 m 36 ls [.int z1_36, .ref (a_mo 0)]) := by
    intro z1_36 m_thrown_36 m_s_36 H locs ls hw hP hD hS hl
    refine lv_iconst (v := 2) hx hb dX7_ploughs_36 (by decide) ?_
    refine gCi1 (gRunV (As := [.int z1_36, .int 2]) (rest := []) ⟨hx, hb, hml, hown, hts⟩ (ctX7_isThrown l g a_mo a_ms a_mwas a_mtried a_msaved a_mpast a_mfar a_mdrift a_mline a_mtape a_mcommands _ m_changes m_thrown_36 m_errorAt m_failedAt m_answer m_isSaved m_lined m_taped m_here m_commandMany z1_36 2 hw) (cwV 2 hts gX7_ploughs_X7_isThrown rfl rfl rfl (by decide +kernel) ⟨Nat.le_of_ble_eq_true rfl, Nat.le_of_ble_eq_true rfl⟩) hE (gSub hP [0]) (gDSub hD [0] rfl) 0 11 rfl rfl rfl rfl rfl hl.1 rfl (lv_room (Nat.le_of_ble_eq_true rfl)) dX7_ploughs_37 ⟨Nat.le_of_ble_eq_true rfl, Nat.le_of_ble_eq_true rfl⟩) hP hD hS hA [0] rfl (fun _ => rfl) rfl (fun r4 m_thrown_v4 H locs hw hP hD hS => ?_)
    have hP : va_P g.1 vwCl (List.flatten [kMo g a_mo a_ms a_mwas a_mtried a_msaved a_mpast a_mfar a_mdrift a_mline a_mtape a_mcommands m_changes m_thrown_v4 m_errorAt m_failedAt m_answer m_isSaved m_lined m_taped m_here m_commandMany, kAr g a_ms 130 m_s_36]) H := hP
    have hD : va_D A (List.flatten [kMo g a_mo a_ms a_mwas a_mtried a_msaved a_mpast a_mfar a_mdrift a_mline a_mtape a_mcommands m_changes m_thrown_v4 m_errorAt m_failedAt m_answer m_isSaved m_lined m_taped m_here m_commandMany, kAr g a_ms 130 m_s_36]) := hD
    refine lv_if_eq (tgt := 45) hx hb dX7_ploughs_40 (by decide) (fun c_40 => ?_) (fun c_40 => ?_)
    · have hw := hw.1 c_40
      refine lv_aload_n hx hb dX7_ploughs_45 rfl (lv_at hl 0 rfl) ?_
      refine lv_aload_n hx hb dX7_ploughs_46 rfl (lv_at hl 0 rfl) ?_
      refine va_get (D := g.1) (ci := 11) (v := .ref (a_ms 0)) (C := RX7) (T := TX7) (N := 20) hx hb hts inX7_ploughs_X7 hown hE.1 hP 0 rfl rfl 0 (by decide) (gW hts 1 (.fieldLink RX7 9 "SnowDispatcherModel" "s" "[I") rfl) (fun _ h9 => h9) rfl dX7_ploughs_47 ?_
      refine lv_iconst (v := 2) hx hb dX7_ploughs_50 (by decide) ?_
      have h5 := hw.1
      have hw := hw.2
      refine va_iald hx hb hE.1 hP 1 0 rfl rfl h5 dX7_ploughs_51 ?_
      refine lv_iconst (v := 0) hx hb dX7_ploughs_52 (by decide) ?_
      refine lv_iload_n hx hb dX7_ploughs_53 rfl (lv_at hl 1 rfl) ?_
      refine gCv1 (gRunV (As := [.int (m_s_36 (2 : Int32).toNatClampNeg), .int 0, .int x1]) (rest := []) ⟨hx, hb, hml, hown, hts⟩ (ctX7_setsPlough l g a_mo a_ms a_mwas a_mtried a_msaved a_mpast a_mfar a_mdrift a_mline a_mtape a_mcommands _ m_changes m_thrown_v4 m_errorAt m_failedAt m_answer m_isSaved m_lined m_taped m_here m_commandMany m_s_36 (m_s_36 (2 : Int32).toNatClampNeg) 0 x1 hw) (cwV 3 hts gX7_ploughs_X7_setsPlough rfl rfl rfl (by decide +kernel) ⟨Nat.le_of_ble_eq_true rfl, Nat.le_of_ble_eq_true rfl⟩) hE (gSub hP [0, 1]) (gDSub hD [0, 1] rfl) 0 11 rfl rfl rfl rfl rfl hl.1 rfl (lv_room (Nat.le_of_ble_eq_true rfl)) dX7_ploughs_54 ⟨Nat.le_of_ble_eq_true rfl, Nat.le_of_ble_eq_true rfl⟩) hP hD hS hA [0, 1] rfl (fun _ => rfl) rfl (fun m_s_v6 H locs hw hP hD hS => ?_)
      have hP : va_P g.1 vwCl (List.flatten [kMo g a_mo a_ms a_mwas a_mtried a_msaved a_mpast a_mfar a_mdrift a_mline a_mtape a_mcommands m_changes m_thrown_v4 m_errorAt m_failedAt m_answer m_isSaved m_lined m_taped m_here m_commandMany, kAr g a_ms 130 m_s_v6]) H := hP
      have hD : va_D A (List.flatten [kMo g a_mo a_ms a_mwas a_mtried a_msaved a_mpast a_mfar a_mdrift a_mline a_mtape a_mcommands m_changes m_thrown_v4 m_errorAt m_failedAt m_answer m_isSaved m_lined m_taped m_here m_commandMany, kAr g a_ms 130 m_s_v6]) := hD
      refine lv_aload_n hx hb dX7_ploughs_57 rfl (lv_at hl 0 rfl) ?_
      refine va_get (D := g.1) (ci := 11) (v := .ref (a_ms 0)) (C := RX7) (T := TX7) (N := 20) hx hb hts inX7_ploughs_X7 hown hE.1 hP 0 rfl rfl 0 (by decide) (gW hts 1 (.fieldLink RX7 9 "SnowDispatcherModel" "s" "[I") rfl) (fun _ h9 => h9) rfl dX7_ploughs_58 ?_
      refine lv_iconst (v := 2) hx hb dX7_ploughs_61 (by decide) ?_
      refine lv_dup2_11 hx hb dX7_ploughs_62 rfl rfl ?_
      have h7 := hw.1
      have hw := hw.2
      refine va_iald hx hb hE.1 hP 1 0 rfl rfl h7 dX7_ploughs_63 ?_
      refine lv_iconst (v := 1) hx hb dX7_ploughs_64 (by decide) ?_
      refine lv_iadd hx hb dX7_ploughs_65 ?_
      have h8 := hw.1
      have hw := hw.2
      refine va_iast hx hb hE.1 hP hD hS 1 0 rfl rfl h8 dX7_ploughs_66 (fun H locs hP hD hS => ?_)
      have hP : va_P g.1 vwCl (List.flatten [kMo g a_mo a_ms a_mwas a_mtried a_msaved a_mpast a_mfar a_mdrift a_mline a_mtape a_mcommands m_changes m_thrown_v4 m_errorAt m_failedAt m_answer m_isSaved m_lined m_taped m_here m_commandMany, kAr g a_ms 130 (upd m_s_v6 (2 : Int32).toNatClampNeg ((m_s_v6 (2 : Int32).toNatClampNeg) + 1))]) H := hP
      have hD : va_D A (List.flatten [kMo g a_mo a_ms a_mwas a_mtried a_msaved a_mpast a_mfar a_mdrift a_mline a_mtape a_mcommands m_changes m_thrown_v4 m_errorAt m_failedAt m_answer m_isSaved m_lined m_taped m_here m_commandMany, kAr g a_ms 130 (upd m_s_v6 (2 : Int32).toNatClampNeg ((m_s_v6 (2 : Int32).toNatClampNeg) + 1))]) := hD
      refine lv_aload_n hx hb dX7_ploughs_67 rfl (lv_at hl 0 rfl) ?_
      refine va_get (D := g.1) (ci := 11) (v := .ref (a_ms 0)) (C := RX7) (T := TX7) (N := 20) hx hb hts inX7_ploughs_X7 hown hE.1 hP 0 rfl rfl 0 (by decide) (gW hts 1 (.fieldLink RX7 9 "SnowDispatcherModel" "s" "[I") rfl) (fun _ h9 => h9) rfl dX7_ploughs_68 ?_
      refine lv_iconst (v := 2) hx hb dX7_ploughs_71 (by decide) ?_
      have h9 := hw.1
      have hw := hw.2
      refine va_iald hx hb hE.1 hP 1 0 rfl rfl h9 dX7_ploughs_72 ?_
      refine lv_iconst (v := 1) hx hb dX7_ploughs_73 (by decide) ?_
      refine lv_isub hx hb dX7_ploughs_74 ?_
      subst hQ
      exact W.iret hx hb hr (gRi2 (c1 := m_thrown_v4) (c2 := (upd m_s_v6 (2 : Int32).toNatClampNeg ((m_s_v6 (2 : Int32).toNatClampNeg) + 1))) (wf := _) hA0 hsz hw hP hD hS) hS.2.2 dX7_ploughs_75
    · have hw := hw.2 c_40
      refine lv_iconst (v := 0) hx hb dX7_ploughs_43 (by decide) ?_
      subst hQ
      exact W.iret hx hb hr (gRi2 (c1 := m_thrown_v4) (c2 := m_s_36) (wf := _) hA0 hsz hw hP hD hS) hS.2.2 dX7_ploughs_44
  have J13 : ∀ (z1_13 : Int32) (m_thrown_13 : Int32) (m_s_13 : Nat → Int32) (H : Heap) (locs : List Loc) (ls : Array Slot), wpX7_ploughs_L13 x1 post z1_13 m_thrown_13 m_s_13 → va_P g.1 vwCl (List.flatten [kMo g a_mo a_ms a_mwas a_mtried a_msaved a_mpast a_mfar a_mdrift a_mline a_mtape a_mcommands m_changes m_thrown_13 m_errorAt m_failedAt m_answer m_isSaved m_lined m_taped m_here m_commandMany, kAr g a_ms 130 m_s_13]) H → va_D A (List.flatten [kMo g a_mo a_ms a_mwas a_mtried a_msaved a_mpast a_mfar a_mdrift a_mline a_mtape a_mcommands m_changes m_thrown_13 m_errorAt m_failedAt m_answer m_isSaved m_lined m_taped m_here m_commandMany, kAr g a_ms 130 m_s_13]) → va_S A s.heap H locs → lv_has ls 2 [(0, .ref (a_mo 0)), (1, .int x1)] → W p l e rmX7_ploughs s m (([.ref (a_mo 0), .int x1] : List Value).toArray) below meth c H locs 0 0 Q (F0 m 13 ls [.int z1_13, .ref (a_mo 0)]) := by
    intro z1_13 m_thrown_13 m_s_13 H locs ls hw hP hD hS hl
    refine lv_iconst (v := 1) hx hb dX7_ploughs_13 (by decide) ?_
    refine gCi1 (gRunV (As := [.int z1_13, .int 1]) (rest := []) ⟨hx, hb, hml, hown, hts⟩ (ctX7_isThrown l g a_mo a_ms a_mwas a_mtried a_msaved a_mpast a_mfar a_mdrift a_mline a_mtape a_mcommands _ m_changes m_thrown_13 m_errorAt m_failedAt m_answer m_isSaved m_lined m_taped m_here m_commandMany z1_13 1 hw) (cwV 2 hts gX7_ploughs_X7_isThrown rfl rfl rfl (by decide +kernel) ⟨Nat.le_of_ble_eq_true rfl, Nat.le_of_ble_eq_true rfl⟩) hE (gSub hP [0]) (gDSub hD [0] rfl) 0 11 rfl rfl rfl rfl rfl hl.1 rfl (lv_room (Nat.le_of_ble_eq_true rfl)) dX7_ploughs_14 ⟨Nat.le_of_ble_eq_true rfl, Nat.le_of_ble_eq_true rfl⟩) hP hD hS hA [0] rfl (fun _ => rfl) rfl (fun r2 m_thrown_v2 H locs hw hP hD hS => ?_)
    have hP : va_P g.1 vwCl (List.flatten [kMo g a_mo a_ms a_mwas a_mtried a_msaved a_mpast a_mfar a_mdrift a_mline a_mtape a_mcommands m_changes m_thrown_v2 m_errorAt m_failedAt m_answer m_isSaved m_lined m_taped m_here m_commandMany, kAr g a_ms 130 m_s_13]) H := hP
    have hD : va_D A (List.flatten [kMo g a_mo a_ms a_mwas a_mtried a_msaved a_mpast a_mfar a_mdrift a_mline a_mtape a_mcommands m_changes m_thrown_v2 m_errorAt m_failedAt m_answer m_isSaved m_lined m_taped m_here m_commandMany, kAr g a_ms 130 m_s_13]) := hD
    refine lv_if_ne (tgt := 43) hx hb dX7_ploughs_17 (by decide) (fun c_17 => ?_) (fun c_17 => ?_)
    · have hw := hw.1 c_17
      refine lv_iconst (v := 0) hx hb dX7_ploughs_43 (by decide) ?_
      subst hQ
      exact W.iret hx hb hr (gRi2 (c1 := m_thrown_v2) (c2 := m_s_13) (wf := _) hA0 hsz hw hP hD hS) hS.2.2 dX7_ploughs_44
    · have hw := hw.2 c_17
      refine lv_aload_n hx hb dX7_ploughs_20 rfl (lv_at hl 0 rfl) ?_
      refine lv_aload_n hx hb dX7_ploughs_21 rfl (lv_at hl 0 rfl) ?_
      refine va_get (D := g.1) (ci := 11) (v := .ref (a_ms 0)) (C := RX7) (T := TX7) (N := 20) hx hb hts inX7_ploughs_X7 hown hE.1 hP 0 rfl rfl 0 (by decide) (gW hts 1 (.fieldLink RX7 9 "SnowDispatcherModel" "s" "[I") rfl) (fun _ h9 => h9) rfl dX7_ploughs_22 ?_
      refine lv_iconst (v := 2) hx hb dX7_ploughs_25 (by decide) ?_
      have h3 := hw.1
      have hw := hw.2
      refine va_iald hx hb hE.1 hP 1 0 rfl rfl h3 dX7_ploughs_26 ?_
      refine lv_iconst (v := 4) hx hb dX7_ploughs_27 (by decide) ?_
      refine lv_icmp_ne (tgt := 35) hx hb dX7_ploughs_28 (by decide) (fun c_28 => ?_) (fun c_28 => ?_)
      · have hw := hw.1 c_28
        refine lv_iconst (v := 0) hx hb dX7_ploughs_35 (by decide) ?_
        exact J36 0 m_thrown_v2 m_s_13 _ _ _ hw hP hD hS (lv_sub hl [0, 1] rfl)
      · have hw := hw.2 c_28
        refine lv_iconst (v := 1) hx hb dX7_ploughs_31 (by decide) ?_
        refine lv_goto (tgt := 36) hx hb dX7_ploughs_32 (by decide) ?_
        exact J36 1 m_thrown_v2 m_s_13 _ _ _ hw hP hD hS (lv_sub hl [0, 1] rfl)
  refine lv_aload_n hx hb dX7_ploughs_0 rfl (lv_at hl 0 rfl) ?_
  refine lv_iload_n hx hb dX7_ploughs_1 rfl (lv_at hl 1 rfl) ?_
  refine gCi0 (gRunS (As := [.int x1]) (rest := [.ref (a_mo 0)]) ⟨hx, hb, hml, hown, hts⟩ (ctX7_isJunction l g _ x1 hw) (va_cwS 1 hts gX7_ploughs_X7_isJunction rfl rfl rfl (by decide +kernel) ⟨Nat.le_of_ble_eq_true rfl, Nat.le_of_ble_eq_true rfl⟩) hE (gSub hP []) (gDSub hD [] rfl) rfl rfl hl.1 rfl (lv_room (Nat.le_of_ble_eq_true rfl)) dX7_ploughs_2 ⟨Nat.le_of_ble_eq_true rfl, Nat.le_of_ble_eq_true rfl⟩) hP hD hS hA [] rfl rfl rfl (fun r1 H locs hw hP hD hS => ?_)
  have hP : va_P g.1 vwCl (List.flatten [kMo g a_mo a_ms a_mwas a_mtried a_msaved a_mpast a_mfar a_mdrift a_mline a_mtape a_mcommands m_changes m_thrown m_errorAt m_failedAt m_answer m_isSaved m_lined m_taped m_here m_commandMany, kAr g a_ms 130 m_s]) H := hP
  have hD : va_D A (List.flatten [kMo g a_mo a_ms a_mwas a_mtried a_msaved a_mpast a_mfar a_mdrift a_mline a_mtape a_mcommands m_changes m_thrown m_errorAt m_failedAt m_answer m_isSaved m_lined m_taped m_here m_commandMany, kAr g a_ms 130 m_s]) := hD
  refine lv_if_ne (tgt := 12) hx hb dX7_ploughs_5 (by decide) (fun c_5 => ?_) (fun c_5 => ?_)
  · have hw := hw.1 c_5
    refine lv_iconst (v := 0) hx hb dX7_ploughs_12 (by decide) ?_
    exact J13 0 m_thrown m_s _ _ _ hw hP hD hS (lv_sub hl [0, 1] rfl)
  · have hw := hw.2 c_5
    refine lv_iconst (v := 1) hx hb dX7_ploughs_8 (by decide) ?_
    refine lv_goto (tgt := 13) hx hb dX7_ploughs_9 (by decide) ?_
    exact J13 1 m_thrown m_s _ _ _ hw hP hD hS (lv_sub hl [0, 1] rfl)
abbrev rmX7_addPlough : Room := { frames := 4, cells := 0, slots := 0, locals := 166 }
set_option maxRecDepth 20000 in
theorem inX7_addPlough_X7 : ∀ w ∈ wsX70, w ∈ wsX7_addPlough := by decide +kernel
set_option maxHeartbeats 4000000 in
set_option maxRecDepth 100000 in
theorem ctX7_addPlough (l : Launch) (g : GG) (a_mo : Nat → Nat) (a_ms : Nat → Nat) (a_mwas : Nat → Nat) (a_mtried : Nat → Nat) (a_msaved : Nat → Nat) (a_mpast : Nat → Nat) (a_mfar : Nat → Nat) (a_mdrift : Nat → Nat) (a_mline : Nat → Nat) (a_mtape : Nat → Nat) (a_mcommands : Nat → Nat) (sz : Nat) (m_changes : Int32) (m_thrown : Int32) (m_errorAt : Int32) (m_failedAt : Int32) (m_answer : Int32) (m_isSaved : Int32) (m_lined : Int32) (m_taped : Int32) (m_here : Int32) (m_commandMany : Int32) (m_s : Nat → Int32) (m_was : Nat → Int32) (m_past : Nat → Int32) (x1 : Int32) {post : Int32 → Int32 → Int32 → (Nat → Int32) → (Nat → Int32) → (Nat → Int32) → Prop} (hw : wpX7_addPlough x1 m_changes m_thrown m_s m_was m_past post) :
    Met l yX7_addPlough wsX7_addPlough rmX7_addPlough (gPc g sz (List.flatten [kMo g a_mo a_ms a_mwas a_mtried a_msaved a_mpast a_mfar a_mdrift a_mline a_mtape a_mcommands m_changes m_thrown m_errorAt m_failedAt m_answer m_isSaved m_lined m_taped m_here m_commandMany, kAr g a_ms 130 m_s, kAr g a_mwas 130 m_was, kAr g a_mpast 1040 m_past]) [.ref (a_mo 0), .int x1]) (gQi5 post (fun u1 u2 u3 u4 u5 => gB g (List.flatten [kMo g a_mo a_ms a_mwas a_mtried a_msaved a_mpast a_mfar a_mdrift a_mline a_mtape a_mcommands m_changes m_thrown m_errorAt m_failedAt m_answer m_isSaved m_lined m_taped m_here m_commandMany, kAr g a_ms 130 m_s, kAr g a_mwas 130 m_was, kAr g a_mpast 1040 m_past]) sz (List.flatten [kMo g a_mo a_ms a_mwas a_mtried a_msaved a_mpast a_mfar a_mdrift a_mline a_mtape a_mcommands u1 u2 m_errorAt m_failedAt m_answer m_isSaved m_lined m_taped m_here m_commandMany, kAr g a_ms 130 u3, kAr g a_mwas 130 u4, kAr g a_mpast 1040 u5])) (va_A (List.flatten [kMo g a_mo a_ms a_mwas a_mtried a_msaved a_mpast a_mfar a_mdrift a_mline a_mtape a_mcommands m_changes m_thrown m_errorAt m_failedAt m_answer m_isSaved m_lined m_taped m_here m_commandMany, kAr g a_ms 130 m_s, kAr g a_mwas 130 m_was, kAr g a_mpast 1040 m_past]) sz)) 0 0 (va_A (List.flatten [kMo g a_mo a_ms a_mwas a_mtried a_msaved a_mpast a_mfar a_mdrift a_mline a_mtape a_mcommands m_changes m_thrown m_errorAt m_failedAt m_answer m_isSaved m_lined m_taped m_here m_commandMany, kAr g a_ms 130 m_s, kAr g a_mwas 130 m_was, kAr g a_mpast 1040 m_past]) sz) := by
  refine gOf (cc := cX7_addPlough) (maxL := 2) (ret := (some .int)) (by decide) rfl (Nat.le_of_ble_eq_true rfl) ?_
  intro p e s m below meth c ls Q A hQ hx hb hr hml hts hown hlocks hE hA0 hsz hP hD hA hS hl
  have hl : lv_has ls 2 [(0, .ref (a_mo 0)), (1, .int x1)] := hl
  refine lv_aload_n hx hb dX7_addPlough_0 rfl (lv_at hl 0 rfl) ?_
  refine gCv2 (gRunV (As := []) (rest := []) ⟨hx, hb, hml, hown, hts⟩ (ctX7_keeps l g a_mo a_ms a_mwas a_mtried a_msaved a_mpast a_mfar a_mdrift a_mline a_mtape a_mcommands _ m_changes m_thrown m_errorAt m_failedAt m_answer m_isSaved m_lined m_taped m_here m_commandMany m_s m_was hw) (cwV 0 hts gX7_addPlough_X7_keeps rfl rfl rfl (by decide +kernel) ⟨Nat.le_of_ble_eq_true rfl, Nat.le_of_ble_eq_true rfl⟩) hE (gSub hP [0, 1, 2]) (gDSub hD [0, 1, 2] rfl) 0 11 rfl rfl rfl rfl rfl hl.1 rfl (lv_room (Nat.le_of_ble_eq_true rfl)) dX7_addPlough_1 ⟨Nat.le_of_ble_eq_true rfl, Nat.le_of_ble_eq_true rfl⟩) hP hD hS hA [0, 1, 2] rfl (fun _ _ => rfl) rfl (fun m_thrown_v1 m_was_v1 H locs hw hP hD hS => ?_)
  have hP : va_P g.1 vwCl (List.flatten [kMo g a_mo a_ms a_mwas a_mtried a_msaved a_mpast a_mfar a_mdrift a_mline a_mtape a_mcommands m_changes m_thrown_v1 m_errorAt m_failedAt m_answer m_isSaved m_lined m_taped m_here m_commandMany, kAr g a_ms 130 m_s, kAr g a_mwas 130 m_was_v1, kAr g a_mpast 1040 m_past]) H := hP
  have hD : va_D A (List.flatten [kMo g a_mo a_ms a_mwas a_mtried a_msaved a_mpast a_mfar a_mdrift a_mline a_mtape a_mcommands m_changes m_thrown_v1 m_errorAt m_failedAt m_answer m_isSaved m_lined m_taped m_here m_commandMany, kAr g a_ms 130 m_s, kAr g a_mwas 130 m_was_v1, kAr g a_mpast 1040 m_past]) := hD
  refine lv_aload_n hx hb dX7_addPlough_4 rfl (lv_at hl 0 rfl) ?_
  refine lv_aload_n hx hb dX7_addPlough_5 rfl (lv_at hl 0 rfl) ?_
  refine lv_iload_n hx hb dX7_addPlough_6 rfl (lv_at hl 1 rfl) ?_
  refine gCi2 (gRunV (As := [.int x1]) (rest := [.ref (a_mo 0)]) ⟨hx, hb, hml, hown, hts⟩ (ctX7_ploughs l g a_mo a_ms a_mwas a_mtried a_msaved a_mpast a_mfar a_mdrift a_mline a_mtape a_mcommands _ m_changes m_thrown_v1 m_errorAt m_failedAt m_answer m_isSaved m_lined m_taped m_here m_commandMany m_s x1 hw) (cwV 1 hts gX7_addPlough_X7_ploughs rfl rfl rfl (by decide +kernel) ⟨Nat.le_of_ble_eq_true rfl, Nat.le_of_ble_eq_true rfl⟩) hE (gSub hP [0, 1]) (gDSub hD [0, 1] rfl) 0 11 rfl rfl rfl rfl rfl hl.1 rfl (lv_room (Nat.le_of_ble_eq_true rfl)) dX7_addPlough_7 ⟨Nat.le_of_ble_eq_true rfl, Nat.le_of_ble_eq_true rfl⟩) hP hD hS hA [0, 1] rfl (fun _ _ => rfl) rfl (fun r2 m_thrown_v2 m_s_v2 H locs hw hP hD hS => ?_)
  have hP : va_P g.1 vwCl (List.flatten [kMo g a_mo a_ms a_mwas a_mtried a_msaved a_mpast a_mfar a_mdrift a_mline a_mtape a_mcommands m_changes m_thrown_v2 m_errorAt m_failedAt m_answer m_isSaved m_lined m_taped m_here m_commandMany, kAr g a_ms 130 m_s_v2, kAr g a_mwas 130 m_was_v1, kAr g a_mpast 1040 m_past]) H := hP
  have hD : va_D A (List.flatten [kMo g a_mo a_ms a_mwas a_mtried a_msaved a_mpast a_mfar a_mdrift a_mline a_mtape a_mcommands m_changes m_thrown_v2 m_errorAt m_failedAt m_answer m_isSaved m_lined m_taped m_here m_commandMany, kAr g a_ms 130 m_s_v2, kAr g a_mwas 130 m_was_v1, kAr g a_mpast 1040 m_past]) := hD
  refine gCi2 (gRunV (As := [.int r2]) (rest := []) ⟨hx, hb, hml, hown, hts⟩ (ctX7_ends l g a_mo a_ms a_mwas a_mtried a_msaved a_mpast a_mfar a_mdrift a_mline a_mtape a_mcommands _ m_changes m_thrown_v2 m_errorAt m_failedAt m_answer m_isSaved m_lined m_taped m_here m_commandMany m_was_v1 m_past r2 hw) (cwV 1 hts gX7_addPlough_X7_ends rfl rfl rfl (by decide +kernel) ⟨Nat.le_of_ble_eq_true rfl, Nat.le_of_ble_eq_true rfl⟩) hE (gSub hP [0, 2, 3]) (gDSub hD [0, 2, 3] rfl) 0 11 rfl rfl rfl rfl rfl hl.1 rfl (lv_room (Nat.le_of_ble_eq_true rfl)) dX7_addPlough_10 ⟨Nat.le_of_ble_eq_true rfl, Nat.le_of_ble_eq_true rfl⟩) hP hD hS hA [0, 2, 3] rfl (fun _ _ => rfl) rfl (fun r3 m_changes_v3 m_past_v3 H locs hw hP hD hS => ?_)
  have hP : va_P g.1 vwCl (List.flatten [kMo g a_mo a_ms a_mwas a_mtried a_msaved a_mpast a_mfar a_mdrift a_mline a_mtape a_mcommands m_changes_v3 m_thrown_v2 m_errorAt m_failedAt m_answer m_isSaved m_lined m_taped m_here m_commandMany, kAr g a_ms 130 m_s_v2, kAr g a_mwas 130 m_was_v1, kAr g a_mpast 1040 m_past_v3]) H := hP
  have hD : va_D A (List.flatten [kMo g a_mo a_ms a_mwas a_mtried a_msaved a_mpast a_mfar a_mdrift a_mline a_mtape a_mcommands m_changes_v3 m_thrown_v2 m_errorAt m_failedAt m_answer m_isSaved m_lined m_taped m_here m_commandMany, kAr g a_ms 130 m_s_v2, kAr g a_mwas 130 m_was_v1, kAr g a_mpast 1040 m_past_v3]) := hD
  subst hQ
  exact W.iret hx hb hr (gRi5 (c1 := m_changes_v3) (c2 := m_thrown_v2) (c3 := m_s_v2) (c4 := m_was_v1) (c5 := m_past_v3) (wf := _) hA0 hsz hw hP hD hS) hS.2.2 dX7_addPlough_13
abbrev rmX7_orders : Room := { frames := 3, cells := 0, slots := 0, locals := 145 }
set_option maxRecDepth 20000 in
theorem inX7_orders_X7 : ∀ w ∈ wsX70, w ∈ wsX7_orders := by decide +kernel
set_option maxHeartbeats 4000000 in
set_option maxRecDepth 100000 in
theorem ctX7_orders (l : Launch) (g : GG) (a_mo : Nat → Nat) (a_ms : Nat → Nat) (a_mwas : Nat → Nat) (a_mtried : Nat → Nat) (a_msaved : Nat → Nat) (a_mpast : Nat → Nat) (a_mfar : Nat → Nat) (a_mdrift : Nat → Nat) (a_mline : Nat → Nat) (a_mtape : Nat → Nat) (a_mcommands : Nat → Nat) (sz : Nat) (m_changes : Int32) (m_thrown : Int32) (m_errorAt : Int32) (m_failedAt : Int32) (m_answer : Int32) (m_isSaved : Int32) (m_lined : Int32) (m_taped : Int32) (m_here : Int32) (m_commandMany : Int32) (m_s : Nat → Int32) (x1 : Int32) (x2 : Int32) {post : Int32 → Int32 → (Nat → Int32) → Prop} (hw : wpX7_orders x1 x2 m_thrown m_s post) :
    Met l yX7_orders wsX7_orders rmX7_orders (gPc g sz (List.flatten [kMo g a_mo a_ms a_mwas a_mtried a_msaved a_mpast a_mfar a_mdrift a_mline a_mtape a_mcommands m_changes m_thrown m_errorAt m_failedAt m_answer m_isSaved m_lined m_taped m_here m_commandMany, kAr g a_ms 130 m_s]) [.ref (a_mo 0), .int x1, .int x2]) (gQi2 post (fun u1 u2 => gB g (List.flatten [kMo g a_mo a_ms a_mwas a_mtried a_msaved a_mpast a_mfar a_mdrift a_mline a_mtape a_mcommands m_changes m_thrown m_errorAt m_failedAt m_answer m_isSaved m_lined m_taped m_here m_commandMany, kAr g a_ms 130 m_s]) sz (List.flatten [kMo g a_mo a_ms a_mwas a_mtried a_msaved a_mpast a_mfar a_mdrift a_mline a_mtape a_mcommands m_changes u1 m_errorAt m_failedAt m_answer m_isSaved m_lined m_taped m_here m_commandMany, kAr g a_ms 130 u2])) (va_A (List.flatten [kMo g a_mo a_ms a_mwas a_mtried a_msaved a_mpast a_mfar a_mdrift a_mline a_mtape a_mcommands m_changes m_thrown m_errorAt m_failedAt m_answer m_isSaved m_lined m_taped m_here m_commandMany, kAr g a_ms 130 m_s]) sz)) 0 0 (va_A (List.flatten [kMo g a_mo a_ms a_mwas a_mtried a_msaved a_mpast a_mfar a_mdrift a_mline a_mtape a_mcommands m_changes m_thrown m_errorAt m_failedAt m_answer m_isSaved m_lined m_taped m_here m_commandMany, kAr g a_ms 130 m_s]) sz) := by
  refine gOf (cc := cX7_orders) (maxL := 4) (ret := (some .int)) (by decide) rfl (Nat.le_of_ble_eq_true rfl) ?_
  intro p e s m below meth c ls Q A hQ hx hb hr hml hts hown hlocks hE hA0 hsz hP hD hA hS hl
  have hl : lv_has ls 4 [(0, .ref (a_mo 0)), (1, .int x1), (2, .int x2)] := hl
  have J45 : ∀ (z1_45 : Int32) (m_thrown_45 : Int32) (m_s_45 : Nat → Int32) (H : Heap) (locs : List Loc) (ls : Array Slot), wpX7_orders_L45 x1 x2 post z1_45 m_thrown_45 m_s_45 → va_P g.1 vwCl (List.flatten [kMo g a_mo a_ms a_mwas a_mtried a_msaved a_mpast a_mfar a_mdrift a_mline a_mtape a_mcommands m_changes m_thrown_45 m_errorAt m_failedAt m_answer m_isSaved m_lined m_taped m_here m_commandMany, kAr g a_ms 130 m_s_45]) H → va_D A (List.flatten [kMo g a_mo a_ms a_mwas a_mtried a_msaved a_mpast a_mfar a_mdrift a_mline a_mtape a_mcommands m_changes m_thrown_45 m_errorAt m_failedAt m_answer m_isSaved m_lined m_taped m_here m_commandMany, kAr g a_ms 130 m_s_45]) → va_S A s.heap H locs → lv_has ls 4 [(0, .ref (a_mo 0)), (1, .int x1), (2, .int x2)] → W p l e rmX7_orders s m (([.ref (a_mo 0), .int x1, .int x2] : List Value).toArray) below meth c H locs 0 0 Q (F0 m 45 ls [.int z1_45, .ref (a_mo 0)]) := by
    intro z1_45 m_thrown_45 m_s_45 H locs ls hw hP hD hS hl
    refine lv_iconst (v := 2) hx hb dX7_orders_45 (by decide) ?_
    refine gCi1 (gRunV (As := [.int z1_45, .int 2]) (rest := []) ⟨hx, hb, hml, hown, hts⟩ (ctX7_isThrown l g a_mo a_ms a_mwas a_mtried a_msaved a_mpast a_mfar a_mdrift a_mline a_mtape a_mcommands _ m_changes m_thrown_45 m_errorAt m_failedAt m_answer m_isSaved m_lined m_taped m_here m_commandMany z1_45 2 hw) (cwV 2 hts gX7_orders_X7_isThrown rfl rfl rfl (by decide +kernel) ⟨Nat.le_of_ble_eq_true rfl, Nat.le_of_ble_eq_true rfl⟩) hE (gSub hP [0]) (gDSub hD [0] rfl) 0 11 rfl rfl rfl rfl rfl hl.1 rfl (lv_room (Nat.le_of_ble_eq_true rfl)) dX7_orders_46 ⟨Nat.le_of_ble_eq_true rfl, Nat.le_of_ble_eq_true rfl⟩) hP hD hS hA [0] rfl (fun _ => rfl) rfl (fun r4 m_thrown_v4 H locs hw hP hD hS => ?_)
    have hP : va_P g.1 vwCl (List.flatten [kMo g a_mo a_ms a_mwas a_mtried a_msaved a_mpast a_mfar a_mdrift a_mline a_mtape a_mcommands m_changes m_thrown_v4 m_errorAt m_failedAt m_answer m_isSaved m_lined m_taped m_here m_commandMany, kAr g a_ms 130 m_s_45]) H := hP
    have hD : va_D A (List.flatten [kMo g a_mo a_ms a_mwas a_mtried a_msaved a_mpast a_mfar a_mdrift a_mline a_mtape a_mcommands m_changes m_thrown_v4 m_errorAt m_failedAt m_answer m_isSaved m_lined m_taped m_here m_commandMany, kAr g a_ms 130 m_s_45]) := hD
    refine lv_if_eq (tgt := 54) hx hb dX7_orders_49 (by decide) (fun c_49 => ?_) (fun c_49 => ?_)
    · have hw := hw.1 c_49
      refine lv_aload_n hx hb dX7_orders_54 rfl (lv_at hl 0 rfl) ?_
      refine lv_iload_n hx hb dX7_orders_55 rfl (lv_at hl 1 rfl) ?_
      refine lv_iconst (v := 3) hx hb dX7_orders_56 (by decide) ?_
      refine gCi0 (gRunV (As := [.int x1, .int 3]) (rest := []) ⟨hx, hb, hml, hown, hts⟩ (ctX7_ofPlough l g a_mo a_ms a_mwas a_mtried a_msaved a_mpast a_mfar a_mdrift a_mline a_mtape a_mcommands _ m_changes m_thrown_v4 m_errorAt m_failedAt m_answer m_isSaved m_lined m_taped m_here m_commandMany m_s_45 x1 3 hw) (cwV 2 hts gX7_orders_X7_ofPlough rfl rfl rfl (by decide +kernel) ⟨Nat.le_of_ble_eq_true rfl, Nat.le_of_ble_eq_true rfl⟩) hE (gSub hP [0, 1]) (gDSub hD [0, 1] rfl) 0 11 rfl rfl rfl rfl rfl hl.1 rfl (lv_room (Nat.le_of_ble_eq_true rfl)) dX7_orders_57 ⟨Nat.le_of_ble_eq_true rfl, Nat.le_of_ble_eq_true rfl⟩) hP hD hS hA [0, 1] rfl rfl rfl (fun r5 H locs hw hP hD hS => ?_)
      have hP : va_P g.1 vwCl (List.flatten [kMo g a_mo a_ms a_mwas a_mtried a_msaved a_mpast a_mfar a_mdrift a_mline a_mtape a_mcommands m_changes m_thrown_v4 m_errorAt m_failedAt m_answer m_isSaved m_lined m_taped m_here m_commandMany, kAr g a_ms 130 m_s_45]) H := hP
      have hD : va_D A (List.flatten [kMo g a_mo a_ms a_mwas a_mtried a_msaved a_mpast a_mfar a_mdrift a_mline a_mtape a_mcommands m_changes m_thrown_v4 m_errorAt m_failedAt m_answer m_isSaved m_lined m_taped m_here m_commandMany, kAr g a_ms 130 m_s_45]) := hD
      refine lv_istore_n (lv' := [(3, .int r5), (0, .ref (a_mo 0)), (1, .int x1), (2, .int x2)]) hx hb dX7_orders_60 rfl hl (by decide) rfl (fun ls hl => ?_)
      refine lv_aload_n hx hb dX7_orders_61 rfl (lv_at hl 1 rfl) ?_
      refine lv_iload_n hx hb dX7_orders_62 rfl (lv_at hl 2 rfl) ?_
      refine lv_iconst (v := 4) hx hb dX7_orders_63 (by decide) ?_
      refine lv_iload_n hx hb dX7_orders_64 rfl (lv_at hl 0 rfl) ?_
      refine lv_iadd hx hb dX7_orders_65 ?_
      refine lv_iload_n hx hb dX7_orders_66 rfl (lv_at hl 3 rfl) ?_
      refine gCv1 (gRunV (As := [.int x1, .int (4 + r5), .int x2]) (rest := []) ⟨hx, hb, hml, hown, hts⟩ (ctX7_setsPlough l g a_mo a_ms a_mwas a_mtried a_msaved a_mpast a_mfar a_mdrift a_mline a_mtape a_mcommands _ m_changes m_thrown_v4 m_errorAt m_failedAt m_answer m_isSaved m_lined m_taped m_here m_commandMany m_s_45 x1 (4 + r5) x2 hw) (cwV 3 hts gX7_orders_X7_setsPlough rfl rfl rfl (by decide +kernel) ⟨Nat.le_of_ble_eq_true rfl, Nat.le_of_ble_eq_true rfl⟩) hE (gSub hP [0, 1]) (gDSub hD [0, 1] rfl) 0 11 rfl rfl rfl rfl rfl hl.1 rfl (lv_room (Nat.le_of_ble_eq_true rfl)) dX7_orders_67 ⟨Nat.le_of_ble_eq_true rfl, Nat.le_of_ble_eq_true rfl⟩) hP hD hS hA [0, 1] rfl (fun _ => rfl) rfl (fun m_s_v6 H locs hw hP hD hS => ?_)
      have hP : va_P g.1 vwCl (List.flatten [kMo g a_mo a_ms a_mwas a_mtried a_msaved a_mpast a_mfar a_mdrift a_mline a_mtape a_mcommands m_changes m_thrown_v4 m_errorAt m_failedAt m_answer m_isSaved m_lined m_taped m_here m_commandMany, kAr g a_ms 130 m_s_v6]) H := hP
      have hD : va_D A (List.flatten [kMo g a_mo a_ms a_mwas a_mtried a_msaved a_mpast a_mfar a_mdrift a_mline a_mtape a_mcommands m_changes m_thrown_v4 m_errorAt m_failedAt m_answer m_isSaved m_lined m_taped m_here m_commandMany, kAr g a_ms 130 m_s_v6]) := hD
      refine lv_aload_n hx hb dX7_orders_70 rfl (lv_at hl 1 rfl) ?_
      refine lv_iload_n hx hb dX7_orders_71 rfl (lv_at hl 2 rfl) ?_
      refine lv_iconst (v := 3) hx hb dX7_orders_72 (by decide) ?_
      refine lv_iload_n hx hb dX7_orders_73 rfl (lv_at hl 0 rfl) ?_
      refine lv_iconst (v := 1) hx hb dX7_orders_74 (by decide) ?_
      refine lv_iadd hx hb dX7_orders_75 ?_
      refine gCv1 (gRunV (As := [.int x1, .int 3, .int (r5 + 1)]) (rest := []) ⟨hx, hb, hml, hown, hts⟩ (ctX7_setsPlough l g a_mo a_ms a_mwas a_mtried a_msaved a_mpast a_mfar a_mdrift a_mline a_mtape a_mcommands _ m_changes m_thrown_v4 m_errorAt m_failedAt m_answer m_isSaved m_lined m_taped m_here m_commandMany m_s_v6 x1 3 (r5 + 1) hw) (cwV 3 hts gX7_orders_X7_setsPlough rfl rfl rfl (by decide +kernel) ⟨Nat.le_of_ble_eq_true rfl, Nat.le_of_ble_eq_true rfl⟩) hE (gSub hP [0, 1]) (gDSub hD [0, 1] rfl) 0 11 rfl rfl rfl rfl rfl hl.1 rfl (lv_room (Nat.le_of_ble_eq_true rfl)) dX7_orders_76 ⟨Nat.le_of_ble_eq_true rfl, Nat.le_of_ble_eq_true rfl⟩) hP hD hS hA [0, 1] rfl (fun _ => rfl) rfl (fun m_s_v7 H locs hw hP hD hS => ?_)
      have hP : va_P g.1 vwCl (List.flatten [kMo g a_mo a_ms a_mwas a_mtried a_msaved a_mpast a_mfar a_mdrift a_mline a_mtape a_mcommands m_changes m_thrown_v4 m_errorAt m_failedAt m_answer m_isSaved m_lined m_taped m_here m_commandMany, kAr g a_ms 130 m_s_v7]) H := hP
      have hD : va_D A (List.flatten [kMo g a_mo a_ms a_mwas a_mtried a_msaved a_mpast a_mfar a_mdrift a_mline a_mtape a_mcommands m_changes m_thrown_v4 m_errorAt m_failedAt m_answer m_isSaved m_lined m_taped m_here m_commandMany, kAr g a_ms 130 m_s_v7]) := hD
      refine lv_iload_n hx hb dX7_orders_79 rfl (lv_at hl 0 rfl) ?_
      refine lv_iconst (v := 1) hx hb dX7_orders_80 (by decide) ?_
      refine lv_iadd hx hb dX7_orders_81 ?_
      subst hQ
      exact W.iret hx hb hr (gRi2 (c1 := m_thrown_v4) (c2 := m_s_v7) (wf := _) hA0 hsz hw hP hD hS) hS.2.2 dX7_orders_82
    · have hw := hw.2 c_49
      refine lv_iconst (v := 0) hx hb dX7_orders_52 (by decide) ?_
      subst hQ
      exact W.iret hx hb hr (gRi2 (c1 := m_thrown_v4) (c2 := m_s_45) (wf := _) hA0 hsz hw hP hD hS) hS.2.2 dX7_orders_53
  have J22 : ∀ (z1_22 : Int32) (m_thrown_22 : Int32) (m_s_22 : Nat → Int32) (H : Heap) (locs : List Loc) (ls : Array Slot), wpX7_orders_L22 x1 x2 post z1_22 m_thrown_22 m_s_22 → va_P g.1 vwCl (List.flatten [kMo g a_mo a_ms a_mwas a_mtried a_msaved a_mpast a_mfar a_mdrift a_mline a_mtape a_mcommands m_changes m_thrown_22 m_errorAt m_failedAt m_answer m_isSaved m_lined m_taped m_here m_commandMany, kAr g a_ms 130 m_s_22]) H → va_D A (List.flatten [kMo g a_mo a_ms a_mwas a_mtried a_msaved a_mpast a_mfar a_mdrift a_mline a_mtape a_mcommands m_changes m_thrown_22 m_errorAt m_failedAt m_answer m_isSaved m_lined m_taped m_here m_commandMany, kAr g a_ms 130 m_s_22]) → va_S A s.heap H locs → lv_has ls 4 [(0, .ref (a_mo 0)), (1, .int x1), (2, .int x2)] → W p l e rmX7_orders s m (([.ref (a_mo 0), .int x1, .int x2] : List Value).toArray) below meth c H locs 0 0 Q (F0 m 22 ls [.int z1_22, .ref (a_mo 0)]) := by
    intro z1_22 m_thrown_22 m_s_22 H locs ls hw hP hD hS hl
    refine lv_iconst (v := 1) hx hb dX7_orders_22 (by decide) ?_
    refine gCi1 (gRunV (As := [.int z1_22, .int 1]) (rest := []) ⟨hx, hb, hml, hown, hts⟩ (ctX7_isThrown l g a_mo a_ms a_mwas a_mtried a_msaved a_mpast a_mfar a_mdrift a_mline a_mtape a_mcommands _ m_changes m_thrown_22 m_errorAt m_failedAt m_answer m_isSaved m_lined m_taped m_here m_commandMany z1_22 1 hw) (cwV 2 hts gX7_orders_X7_isThrown rfl rfl rfl (by decide +kernel) ⟨Nat.le_of_ble_eq_true rfl, Nat.le_of_ble_eq_true rfl⟩) hE (gSub hP [0]) (gDSub hD [0] rfl) 0 11 rfl rfl rfl rfl rfl hl.1 rfl (lv_room (Nat.le_of_ble_eq_true rfl)) dX7_orders_23 ⟨Nat.le_of_ble_eq_true rfl, Nat.le_of_ble_eq_true rfl⟩) hP hD hS hA [0] rfl (fun _ => rfl) rfl (fun r2 m_thrown_v2 H locs hw hP hD hS => ?_)
    have hP : va_P g.1 vwCl (List.flatten [kMo g a_mo a_ms a_mwas a_mtried a_msaved a_mpast a_mfar a_mdrift a_mline a_mtape a_mcommands m_changes m_thrown_v2 m_errorAt m_failedAt m_answer m_isSaved m_lined m_taped m_here m_commandMany, kAr g a_ms 130 m_s_22]) H := hP
    have hD : va_D A (List.flatten [kMo g a_mo a_ms a_mwas a_mtried a_msaved a_mpast a_mfar a_mdrift a_mline a_mtape a_mcommands m_changes m_thrown_v2 m_errorAt m_failedAt m_answer m_isSaved m_lined m_taped m_here m_commandMany, kAr g a_ms 130 m_s_22]) := hD
    refine lv_if_ne (tgt := 52) hx hb dX7_orders_26 (by decide) (fun c_26 => ?_) (fun c_26 => ?_)
    · have hw := hw.1 c_26
      refine lv_iconst (v := 0) hx hb dX7_orders_52 (by decide) ?_
      subst hQ
      exact W.iret hx hb hr (gRi2 (c1 := m_thrown_v2) (c2 := m_s_22) (wf := _) hA0 hsz hw hP hD hS) hS.2.2 dX7_orders_53
    · have hw := hw.2 c_26
      refine lv_aload_n hx hb dX7_orders_29 rfl (lv_at hl 0 rfl) ?_
      refine lv_aload_n hx hb dX7_orders_30 rfl (lv_at hl 0 rfl) ?_
      refine lv_iload_n hx hb dX7_orders_31 rfl (lv_at hl 1 rfl) ?_
      refine lv_iconst (v := 3) hx hb dX7_orders_32 (by decide) ?_
      refine gCi0 (gRunV (As := [.int x1, .int 3]) (rest := [.ref (a_mo 0)]) ⟨hx, hb, hml, hown, hts⟩ (ctX7_ofPlough l g a_mo a_ms a_mwas a_mtried a_msaved a_mpast a_mfar a_mdrift a_mline a_mtape a_mcommands _ m_changes m_thrown_v2 m_errorAt m_failedAt m_answer m_isSaved m_lined m_taped m_here m_commandMany m_s_22 x1 3 hw) (cwV 2 hts gX7_orders_X7_ofPlough rfl rfl rfl (by decide +kernel) ⟨Nat.le_of_ble_eq_true rfl, Nat.le_of_ble_eq_true rfl⟩) hE (gSub hP [0, 1]) (gDSub hD [0, 1] rfl) 0 11 rfl rfl rfl rfl rfl hl.1 rfl (lv_room (Nat.le_of_ble_eq_true rfl)) dX7_orders_33 ⟨Nat.le_of_ble_eq_true rfl, Nat.le_of_ble_eq_true rfl⟩) hP hD hS hA [0, 1] rfl rfl rfl (fun r3 H locs hw hP hD hS => ?_)
      have hP : va_P g.1 vwCl (List.flatten [kMo g a_mo a_ms a_mwas a_mtried a_msaved a_mpast a_mfar a_mdrift a_mline a_mtape a_mcommands m_changes m_thrown_v2 m_errorAt m_failedAt m_answer m_isSaved m_lined m_taped m_here m_commandMany, kAr g a_ms 130 m_s_22]) H := hP
      have hD : va_D A (List.flatten [kMo g a_mo a_ms a_mwas a_mtried a_msaved a_mpast a_mfar a_mdrift a_mline a_mtape a_mcommands m_changes m_thrown_v2 m_errorAt m_failedAt m_answer m_isSaved m_lined m_taped m_here m_commandMany, kAr g a_ms 130 m_s_22]) := hD
      refine lv_iconst (v := 5) hx hb dX7_orders_36 (by decide) ?_
      refine lv_icmp_ne (tgt := 44) hx hb dX7_orders_37 (by decide) (fun c_37 => ?_) (fun c_37 => ?_)
      · have hw := hw.1 c_37
        refine lv_iconst (v := 0) hx hb dX7_orders_44 (by decide) ?_
        exact J45 0 m_thrown_v2 m_s_22 _ _ _ hw hP hD hS (lv_sub hl [0, 1, 2] rfl)
      · have hw := hw.2 c_37
        refine lv_iconst (v := 1) hx hb dX7_orders_40 (by decide) ?_
        refine lv_goto (tgt := 45) hx hb dX7_orders_41 (by decide) ?_
        exact J45 1 m_thrown_v2 m_s_22 _ _ _ hw hP hD hS (lv_sub hl [0, 1, 2] rfl)
  refine lv_aload_n hx hb dX7_orders_0 rfl (lv_at hl 0 rfl) ?_
  refine lv_aload_n hx hb dX7_orders_1 rfl (lv_at hl 0 rfl) ?_
  refine lv_iload_n hx hb dX7_orders_2 rfl (lv_at hl 1 rfl) ?_
  refine gCi0 (gRunV (As := [.int x1]) (rest := [.ref (a_mo 0)]) ⟨hx, hb, hml, hown, hts⟩ (ctX7_isPlough l g a_mo a_ms a_mwas a_mtried a_msaved a_mpast a_mfar a_mdrift a_mline a_mtape a_mcommands _ m_changes m_thrown m_errorAt m_failedAt m_answer m_isSaved m_lined m_taped m_here m_commandMany m_s x1 hw) (cwV 1 hts gX7_orders_X7_isPlough rfl rfl rfl (by decide +kernel) ⟨Nat.le_of_ble_eq_true rfl, Nat.le_of_ble_eq_true rfl⟩) hE (gSub hP [0, 1]) (gDSub hD [0, 1] rfl) 0 11 rfl rfl rfl rfl rfl hl.1 rfl (lv_room (Nat.le_of_ble_eq_true rfl)) dX7_orders_3 ⟨Nat.le_of_ble_eq_true rfl, Nat.le_of_ble_eq_true rfl⟩) hP hD hS hA [0, 1] rfl rfl rfl (fun r1 H locs hw hP hD hS => ?_)
  have hP : va_P g.1 vwCl (List.flatten [kMo g a_mo a_ms a_mwas a_mtried a_msaved a_mpast a_mfar a_mdrift a_mline a_mtape a_mcommands m_changes m_thrown m_errorAt m_failedAt m_answer m_isSaved m_lined m_taped m_here m_commandMany, kAr g a_ms 130 m_s]) H := hP
  have hD : va_D A (List.flatten [kMo g a_mo a_ms a_mwas a_mtried a_msaved a_mpast a_mfar a_mdrift a_mline a_mtape a_mcommands m_changes m_thrown m_errorAt m_failedAt m_answer m_isSaved m_lined m_taped m_here m_commandMany, kAr g a_ms 130 m_s]) := hD
  refine lv_if_eq (tgt := 17) hx hb dX7_orders_6 (by decide) (fun c_6 => ?_) (fun c_6 => ?_)
  · have hw := hw.1 c_6
    refine lv_iconst (v := 1) hx hb dX7_orders_17 (by decide) ?_
    refine lv_goto (tgt := 22) hx hb dX7_orders_18 (by decide) ?_
    exact J22 1 m_thrown m_s _ _ _ hw hP hD hS (lv_sub hl [0, 1, 2] rfl)
  · have hw := hw.2 c_6
    refine lv_aload_n hx hb dX7_orders_9 rfl (lv_at hl 0 rfl) ?_
    refine lv_iload_n hx hb dX7_orders_10 rfl (lv_at hl 2 rfl) ?_
    refine gCi0 (gRunV (As := [.int x2]) (rest := [.ref (a_mo 0)]) ⟨hx, hb, hml, hown, hts⟩ (ctX7_isStreet l g a_mo a_ms a_mwas a_mtried a_msaved a_mpast a_mfar a_mdrift a_mline a_mtape a_mcommands _ m_changes m_thrown m_errorAt m_failedAt m_answer m_isSaved m_lined m_taped m_here m_commandMany m_s x2 hw) (cwV 1 hts gX7_orders_X7_isStreet rfl rfl rfl (by decide +kernel) ⟨Nat.le_of_ble_eq_true rfl, Nat.le_of_ble_eq_true rfl⟩) hE (gSub hP [0, 1]) (gDSub hD [0, 1] rfl) 0 11 rfl rfl rfl rfl rfl hl.1 rfl (lv_room (Nat.le_of_ble_eq_true rfl)) dX7_orders_11 ⟨Nat.le_of_ble_eq_true rfl, Nat.le_of_ble_eq_true rfl⟩) hP hD hS hA [0, 1] rfl rfl rfl (fun r8 H locs hw hP hD hS => ?_)
    have hP : va_P g.1 vwCl (List.flatten [kMo g a_mo a_ms a_mwas a_mtried a_msaved a_mpast a_mfar a_mdrift a_mline a_mtape a_mcommands m_changes m_thrown m_errorAt m_failedAt m_answer m_isSaved m_lined m_taped m_here m_commandMany, kAr g a_ms 130 m_s]) H := hP
    have hD : va_D A (List.flatten [kMo g a_mo a_ms a_mwas a_mtried a_msaved a_mpast a_mfar a_mdrift a_mline a_mtape a_mcommands m_changes m_thrown m_errorAt m_failedAt m_answer m_isSaved m_lined m_taped m_here m_commandMany, kAr g a_ms 130 m_s]) := hD
    refine lv_if_ne (tgt := 21) hx hb dX7_orders_14 (by decide) (fun c_14 => ?_) (fun c_14 => ?_)
    · have hw := hw.1 c_14
      refine lv_iconst (v := 0) hx hb dX7_orders_21 (by decide) ?_
      exact J22 0 m_thrown m_s _ _ _ hw hP hD hS (lv_sub hl [0, 1, 2] rfl)
    · have hw := hw.2 c_14
      refine lv_iconst (v := 1) hx hb dX7_orders_17 (by decide) ?_
      refine lv_goto (tgt := 22) hx hb dX7_orders_18 (by decide) ?_
      exact J22 1 m_thrown m_s _ _ _ hw hP hD hS (lv_sub hl [0, 1, 2] rfl)
abbrev rmX7_order : Room := { frames := 4, cells := 0, slots := 0, locals := 169 }
set_option maxRecDepth 20000 in
theorem inX7_order_X7 : ∀ w ∈ wsX70, w ∈ wsX7_order := by decide +kernel
set_option maxHeartbeats 4000000 in
set_option maxRecDepth 100000 in
theorem ctX7_order (l : Launch) (g : GG) (a_mo : Nat → Nat) (a_ms : Nat → Nat) (a_mwas : Nat → Nat) (a_mtried : Nat → Nat) (a_msaved : Nat → Nat) (a_mpast : Nat → Nat) (a_mfar : Nat → Nat) (a_mdrift : Nat → Nat) (a_mline : Nat → Nat) (a_mtape : Nat → Nat) (a_mcommands : Nat → Nat) (sz : Nat) (m_changes : Int32) (m_thrown : Int32) (m_errorAt : Int32) (m_failedAt : Int32) (m_answer : Int32) (m_isSaved : Int32) (m_lined : Int32) (m_taped : Int32) (m_here : Int32) (m_commandMany : Int32) (m_s : Nat → Int32) (m_was : Nat → Int32) (m_past : Nat → Int32) (x1 : Int32) (x2 : Int32) {post : Int32 → Int32 → Int32 → (Nat → Int32) → (Nat → Int32) → (Nat → Int32) → Prop} (hw : wpX7_order x1 x2 m_changes m_thrown m_s m_was m_past post) :
    Met l yX7_order wsX7_order rmX7_order (gPc g sz (List.flatten [kMo g a_mo a_ms a_mwas a_mtried a_msaved a_mpast a_mfar a_mdrift a_mline a_mtape a_mcommands m_changes m_thrown m_errorAt m_failedAt m_answer m_isSaved m_lined m_taped m_here m_commandMany, kAr g a_ms 130 m_s, kAr g a_mwas 130 m_was, kAr g a_mpast 1040 m_past]) [.ref (a_mo 0), .int x1, .int x2]) (gQi5 post (fun u1 u2 u3 u4 u5 => gB g (List.flatten [kMo g a_mo a_ms a_mwas a_mtried a_msaved a_mpast a_mfar a_mdrift a_mline a_mtape a_mcommands m_changes m_thrown m_errorAt m_failedAt m_answer m_isSaved m_lined m_taped m_here m_commandMany, kAr g a_ms 130 m_s, kAr g a_mwas 130 m_was, kAr g a_mpast 1040 m_past]) sz (List.flatten [kMo g a_mo a_ms a_mwas a_mtried a_msaved a_mpast a_mfar a_mdrift a_mline a_mtape a_mcommands u1 u2 m_errorAt m_failedAt m_answer m_isSaved m_lined m_taped m_here m_commandMany, kAr g a_ms 130 u3, kAr g a_mwas 130 u4, kAr g a_mpast 1040 u5])) (va_A (List.flatten [kMo g a_mo a_ms a_mwas a_mtried a_msaved a_mpast a_mfar a_mdrift a_mline a_mtape a_mcommands m_changes m_thrown m_errorAt m_failedAt m_answer m_isSaved m_lined m_taped m_here m_commandMany, kAr g a_ms 130 m_s, kAr g a_mwas 130 m_was, kAr g a_mpast 1040 m_past]) sz)) 0 0 (va_A (List.flatten [kMo g a_mo a_ms a_mwas a_mtried a_msaved a_mpast a_mfar a_mdrift a_mline a_mtape a_mcommands m_changes m_thrown m_errorAt m_failedAt m_answer m_isSaved m_lined m_taped m_here m_commandMany, kAr g a_ms 130 m_s, kAr g a_mwas 130 m_was, kAr g a_mpast 1040 m_past]) sz) := by
  refine gOf (cc := cX7_order) (maxL := 3) (ret := (some .int)) (by decide) rfl (Nat.le_of_ble_eq_true rfl) ?_
  intro p e s m below meth c ls Q A hQ hx hb hr hml hts hown hlocks hE hA0 hsz hP hD hA hS hl
  have hl : lv_has ls 3 [(0, .ref (a_mo 0)), (1, .int x1), (2, .int x2)] := hl
  refine lv_aload_n hx hb dX7_order_0 rfl (lv_at hl 0 rfl) ?_
  refine gCv2 (gRunV (As := []) (rest := []) ⟨hx, hb, hml, hown, hts⟩ (ctX7_keeps l g a_mo a_ms a_mwas a_mtried a_msaved a_mpast a_mfar a_mdrift a_mline a_mtape a_mcommands _ m_changes m_thrown m_errorAt m_failedAt m_answer m_isSaved m_lined m_taped m_here m_commandMany m_s m_was hw) (cwV 0 hts gX7_order_X7_keeps rfl rfl rfl (by decide +kernel) ⟨Nat.le_of_ble_eq_true rfl, Nat.le_of_ble_eq_true rfl⟩) hE (gSub hP [0, 1, 2]) (gDSub hD [0, 1, 2] rfl) 0 11 rfl rfl rfl rfl rfl hl.1 rfl (lv_room (Nat.le_of_ble_eq_true rfl)) dX7_order_1 ⟨Nat.le_of_ble_eq_true rfl, Nat.le_of_ble_eq_true rfl⟩) hP hD hS hA [0, 1, 2] rfl (fun _ _ => rfl) rfl (fun m_thrown_v1 m_was_v1 H locs hw hP hD hS => ?_)
  have hP : va_P g.1 vwCl (List.flatten [kMo g a_mo a_ms a_mwas a_mtried a_msaved a_mpast a_mfar a_mdrift a_mline a_mtape a_mcommands m_changes m_thrown_v1 m_errorAt m_failedAt m_answer m_isSaved m_lined m_taped m_here m_commandMany, kAr g a_ms 130 m_s, kAr g a_mwas 130 m_was_v1, kAr g a_mpast 1040 m_past]) H := hP
  have hD : va_D A (List.flatten [kMo g a_mo a_ms a_mwas a_mtried a_msaved a_mpast a_mfar a_mdrift a_mline a_mtape a_mcommands m_changes m_thrown_v1 m_errorAt m_failedAt m_answer m_isSaved m_lined m_taped m_here m_commandMany, kAr g a_ms 130 m_s, kAr g a_mwas 130 m_was_v1, kAr g a_mpast 1040 m_past]) := hD
  refine lv_aload_n hx hb dX7_order_4 rfl (lv_at hl 0 rfl) ?_
  refine lv_aload_n hx hb dX7_order_5 rfl (lv_at hl 0 rfl) ?_
  refine lv_iload_n hx hb dX7_order_6 rfl (lv_at hl 1 rfl) ?_
  refine lv_iload_n hx hb dX7_order_7 rfl (lv_at hl 2 rfl) ?_
  refine gCi2 (gRunV (As := [.int x1, .int x2]) (rest := [.ref (a_mo 0)]) ⟨hx, hb, hml, hown, hts⟩ (ctX7_orders l g a_mo a_ms a_mwas a_mtried a_msaved a_mpast a_mfar a_mdrift a_mline a_mtape a_mcommands _ m_changes m_thrown_v1 m_errorAt m_failedAt m_answer m_isSaved m_lined m_taped m_here m_commandMany m_s x1 x2 hw) (cwV 2 hts gX7_order_X7_orders rfl rfl rfl (by decide +kernel) ⟨Nat.le_of_ble_eq_true rfl, Nat.le_of_ble_eq_true rfl⟩) hE (gSub hP [0, 1]) (gDSub hD [0, 1] rfl) 0 11 rfl rfl rfl rfl rfl hl.1 rfl (lv_room (Nat.le_of_ble_eq_true rfl)) dX7_order_8 ⟨Nat.le_of_ble_eq_true rfl, Nat.le_of_ble_eq_true rfl⟩) hP hD hS hA [0, 1] rfl (fun _ _ => rfl) rfl (fun r2 m_thrown_v2 m_s_v2 H locs hw hP hD hS => ?_)
  have hP : va_P g.1 vwCl (List.flatten [kMo g a_mo a_ms a_mwas a_mtried a_msaved a_mpast a_mfar a_mdrift a_mline a_mtape a_mcommands m_changes m_thrown_v2 m_errorAt m_failedAt m_answer m_isSaved m_lined m_taped m_here m_commandMany, kAr g a_ms 130 m_s_v2, kAr g a_mwas 130 m_was_v1, kAr g a_mpast 1040 m_past]) H := hP
  have hD : va_D A (List.flatten [kMo g a_mo a_ms a_mwas a_mtried a_msaved a_mpast a_mfar a_mdrift a_mline a_mtape a_mcommands m_changes m_thrown_v2 m_errorAt m_failedAt m_answer m_isSaved m_lined m_taped m_here m_commandMany, kAr g a_ms 130 m_s_v2, kAr g a_mwas 130 m_was_v1, kAr g a_mpast 1040 m_past]) := hD
  refine gCi2 (gRunV (As := [.int r2]) (rest := []) ⟨hx, hb, hml, hown, hts⟩ (ctX7_ends l g a_mo a_ms a_mwas a_mtried a_msaved a_mpast a_mfar a_mdrift a_mline a_mtape a_mcommands _ m_changes m_thrown_v2 m_errorAt m_failedAt m_answer m_isSaved m_lined m_taped m_here m_commandMany m_was_v1 m_past r2 hw) (cwV 1 hts gX7_order_X7_ends rfl rfl rfl (by decide +kernel) ⟨Nat.le_of_ble_eq_true rfl, Nat.le_of_ble_eq_true rfl⟩) hE (gSub hP [0, 2, 3]) (gDSub hD [0, 2, 3] rfl) 0 11 rfl rfl rfl rfl rfl hl.1 rfl (lv_room (Nat.le_of_ble_eq_true rfl)) dX7_order_11 ⟨Nat.le_of_ble_eq_true rfl, Nat.le_of_ble_eq_true rfl⟩) hP hD hS hA [0, 2, 3] rfl (fun _ _ => rfl) rfl (fun r3 m_changes_v3 m_past_v3 H locs hw hP hD hS => ?_)
  have hP : va_P g.1 vwCl (List.flatten [kMo g a_mo a_ms a_mwas a_mtried a_msaved a_mpast a_mfar a_mdrift a_mline a_mtape a_mcommands m_changes_v3 m_thrown_v2 m_errorAt m_failedAt m_answer m_isSaved m_lined m_taped m_here m_commandMany, kAr g a_ms 130 m_s_v2, kAr g a_mwas 130 m_was_v1, kAr g a_mpast 1040 m_past_v3]) H := hP
  have hD : va_D A (List.flatten [kMo g a_mo a_ms a_mwas a_mtried a_msaved a_mpast a_mfar a_mdrift a_mline a_mtape a_mcommands m_changes_v3 m_thrown_v2 m_errorAt m_failedAt m_answer m_isSaved m_lined m_taped m_here m_commandMany, kAr g a_ms 130 m_s_v2, kAr g a_mwas 130 m_was_v1, kAr g a_mpast 1040 m_past_v3]) := hD
  subst hQ
  exact W.iret hx hb hr (gRi5 (c1 := m_changes_v3) (c2 := m_thrown_v2) (c3 := m_s_v2) (c4 := m_was_v1) (c5 := m_past_v3) (wf := _) hA0 hsz hw hP hD hS) hS.2.2 dX7_order_14
abbrev rmX7_cancels : Room := { frames := 3, cells := 0, slots := 0, locals := 145 }
set_option maxRecDepth 20000 in
theorem inX7_cancels_X7 : ∀ w ∈ wsX70, w ∈ wsX7_cancels := by decide +kernel
set_option maxHeartbeats 4000000 in
set_option maxRecDepth 100000 in
theorem ctX7_cancels (l : Launch) (g : GG) (a_mo : Nat → Nat) (a_ms : Nat → Nat) (a_mwas : Nat → Nat) (a_mtried : Nat → Nat) (a_msaved : Nat → Nat) (a_mpast : Nat → Nat) (a_mfar : Nat → Nat) (a_mdrift : Nat → Nat) (a_mline : Nat → Nat) (a_mtape : Nat → Nat) (a_mcommands : Nat → Nat) (sz : Nat) (m_changes : Int32) (m_thrown : Int32) (m_errorAt : Int32) (m_failedAt : Int32) (m_answer : Int32) (m_isSaved : Int32) (m_lined : Int32) (m_taped : Int32) (m_here : Int32) (m_commandMany : Int32) (m_s : Nat → Int32) (x1 : Int32) {post : Int32 → Int32 → (Nat → Int32) → Prop} (hw : wpX7_cancels x1 m_thrown m_s post) :
    Met l yX7_cancels wsX7_cancels rmX7_cancels (gPc g sz (List.flatten [kMo g a_mo a_ms a_mwas a_mtried a_msaved a_mpast a_mfar a_mdrift a_mline a_mtape a_mcommands m_changes m_thrown m_errorAt m_failedAt m_answer m_isSaved m_lined m_taped m_here m_commandMany, kAr g a_ms 130 m_s]) [.ref (a_mo 0), .int x1]) (gQi2 post (fun u1 u2 => gB g (List.flatten [kMo g a_mo a_ms a_mwas a_mtried a_msaved a_mpast a_mfar a_mdrift a_mline a_mtape a_mcommands m_changes m_thrown m_errorAt m_failedAt m_answer m_isSaved m_lined m_taped m_here m_commandMany, kAr g a_ms 130 m_s]) sz (List.flatten [kMo g a_mo a_ms a_mwas a_mtried a_msaved a_mpast a_mfar a_mdrift a_mline a_mtape a_mcommands m_changes u1 m_errorAt m_failedAt m_answer m_isSaved m_lined m_taped m_here m_commandMany, kAr g a_ms 130 u2])) (va_A (List.flatten [kMo g a_mo a_ms a_mwas a_mtried a_msaved a_mpast a_mfar a_mdrift a_mline a_mtape a_mcommands m_changes m_thrown m_errorAt m_failedAt m_answer m_isSaved m_lined m_taped m_here m_commandMany, kAr g a_ms 130 m_s]) sz)) 0 0 (va_A (List.flatten [kMo g a_mo a_ms a_mwas a_mtried a_msaved a_mpast a_mfar a_mdrift a_mline a_mtape a_mcommands m_changes m_thrown m_errorAt m_failedAt m_answer m_isSaved m_lined m_taped m_here m_commandMany, kAr g a_ms 130 m_s]) sz) := by
  refine gOf (cc := cX7_cancels) (maxL := 4) (ret := (some .int)) (by decide) rfl (Nat.le_of_ble_eq_true rfl) ?_
  intro p e s m below meth c ls Q A hQ hx hb hr hml hts hown hlocks hE hA0 hsz hP hD hA hS hl
  have hl : lv_has ls 4 [(0, .ref (a_mo 0)), (1, .int x1)] := hl
  have J36 : ∀ (z1_36 : Int32) (m_thrown_36 : Int32) (m_s_36 : Nat → Int32) (H : Heap) (locs : List Loc) (ls : Array Slot), wpX7_cancels_L36 x1 post z1_36 m_thrown_36 m_s_36 → va_P g.1 vwCl (List.flatten [kMo g a_mo a_ms a_mwas a_mtried a_msaved a_mpast a_mfar a_mdrift a_mline a_mtape a_mcommands m_changes m_thrown_36 m_errorAt m_failedAt m_answer m_isSaved m_lined m_taped m_here m_commandMany, kAr g a_ms 130 m_s_36]) H → va_D A (List.flatten [kMo g a_mo a_ms a_mwas a_mtried a_msaved a_mpast a_mfar a_mdrift a_mline a_mtape a_mcommands m_changes m_thrown_36 m_errorAt m_failedAt m_answer m_isSaved m_lined m_taped m_here m_commandMany, kAr g a_ms 130 m_s_36]) → va_S A s.heap H locs → lv_has ls 4 [(0, .ref (a_mo 0)), (1, .int x1)] → W p l e rmX7_cancels s m (([.ref (a_mo 0), .int x1] : List Value).toArray) below meth c H locs 0 0 Q (F0 m 36 ls [.int z1_36, .ref (a_mo 0)]) := by
    intro z1_36 m_thrown_36 m_s_36 H locs ls hw hP hD hS hl
    refine lv_iconst (v := 2) hx hb dX7_cancels_36 (by decide) ?_
    refine gCi1 (gRunV (As := [.int z1_36, .int 2]) (rest := []) ⟨hx, hb, hml, hown, hts⟩ (ctX7_isThrown l g a_mo a_ms a_mwas a_mtried a_msaved a_mpast a_mfar a_mdrift a_mline a_mtape a_mcommands _ m_changes m_thrown_36 m_errorAt m_failedAt m_answer m_isSaved m_lined m_taped m_here m_commandMany z1_36 2 hw) (cwV 2 hts gX7_cancels_X7_isThrown rfl rfl rfl (by decide +kernel) ⟨Nat.le_of_ble_eq_true rfl, Nat.le_of_ble_eq_true rfl⟩) hE (gSub hP [0]) (gDSub hD [0] rfl) 0 11 rfl rfl rfl rfl rfl hl.1 rfl (lv_room (Nat.le_of_ble_eq_true rfl)) dX7_cancels_37 ⟨Nat.le_of_ble_eq_true rfl, Nat.le_of_ble_eq_true rfl⟩) hP hD hS hA [0] rfl (fun _ => rfl) rfl (fun r4 m_thrown_v4 H locs hw hP hD hS => ?_)
    have hP : va_P g.1 vwCl (List.flatten [kMo g a_mo a_ms a_mwas a_mtried a_msaved a_mpast a_mfar a_mdrift a_mline a_mtape a_mcommands m_changes m_thrown_v4 m_errorAt m_failedAt m_answer m_isSaved m_lined m_taped m_here m_commandMany, kAr g a_ms 130 m_s_36]) H := hP
    have hD : va_D A (List.flatten [kMo g a_mo a_ms a_mwas a_mtried a_msaved a_mpast a_mfar a_mdrift a_mline a_mtape a_mcommands m_changes m_thrown_v4 m_errorAt m_failedAt m_answer m_isSaved m_lined m_taped m_here m_commandMany, kAr g a_ms 130 m_s_36]) := hD
    refine lv_if_eq (tgt := 45) hx hb dX7_cancels_40 (by decide) (fun c_40 => ?_) (fun c_40 => ?_)
    · have hw := hw.1 c_40
      refine lv_aload_n hx hb dX7_cancels_45 rfl (lv_at hl 0 rfl) ?_
      refine lv_iload_n hx hb dX7_cancels_46 rfl (lv_at hl 1 rfl) ?_
      refine lv_iconst (v := 3) hx hb dX7_cancels_47 (by decide) ?_
      refine gCi0 (gRunV (As := [.int x1, .int 3]) (rest := []) ⟨hx, hb, hml, hown, hts⟩ (ctX7_ofPlough l g a_mo a_ms a_mwas a_mtried a_msaved a_mpast a_mfar a_mdrift a_mline a_mtape a_mcommands _ m_changes m_thrown_v4 m_errorAt m_failedAt m_answer m_isSaved m_lined m_taped m_here m_commandMany m_s_36 x1 3 hw) (cwV 2 hts gX7_cancels_X7_ofPlough rfl rfl rfl (by decide +kernel) ⟨Nat.le_of_ble_eq_true rfl, Nat.le_of_ble_eq_true rfl⟩) hE (gSub hP [0, 1]) (gDSub hD [0, 1] rfl) 0 11 rfl rfl rfl rfl rfl hl.1 rfl (lv_room (Nat.le_of_ble_eq_true rfl)) dX7_cancels_48 ⟨Nat.le_of_ble_eq_true rfl, Nat.le_of_ble_eq_true rfl⟩) hP hD hS hA [0, 1] rfl rfl rfl (fun r5 H locs hw hP hD hS => ?_)
      have hP : va_P g.1 vwCl (List.flatten [kMo g a_mo a_ms a_mwas a_mtried a_msaved a_mpast a_mfar a_mdrift a_mline a_mtape a_mcommands m_changes m_thrown_v4 m_errorAt m_failedAt m_answer m_isSaved m_lined m_taped m_here m_commandMany, kAr g a_ms 130 m_s_36]) H := hP
      have hD : va_D A (List.flatten [kMo g a_mo a_ms a_mwas a_mtried a_msaved a_mpast a_mfar a_mdrift a_mline a_mtape a_mcommands m_changes m_thrown_v4 m_errorAt m_failedAt m_answer m_isSaved m_lined m_taped m_here m_commandMany, kAr g a_ms 130 m_s_36]) := hD
      refine lv_iconst (v := 1) hx hb dX7_cancels_51 (by decide) ?_
      refine lv_isub hx hb dX7_cancels_52 ?_
      refine lv_istore_n (lv' := [(2, .int (r5 - 1)), (0, .ref (a_mo 0)), (1, .int x1)]) hx hb dX7_cancels_53 rfl hl (by decide) rfl (fun ls hl => ?_)
      refine lv_aload_n hx hb dX7_cancels_54 rfl (lv_at hl 1 rfl) ?_
      refine lv_iload_n hx hb dX7_cancels_55 rfl (lv_at hl 2 rfl) ?_
      refine lv_iconst (v := 4) hx hb dX7_cancels_56 (by decide) ?_
      refine lv_iload_n hx hb dX7_cancels_57 rfl (lv_at hl 0 rfl) ?_
      refine lv_iadd hx hb dX7_cancels_58 ?_
      refine gCi0 (gRunV (As := [.int x1, .int (4 + (r5 - 1))]) (rest := []) ⟨hx, hb, hml, hown, hts⟩ (ctX7_ofPlough l g a_mo a_ms a_mwas a_mtried a_msaved a_mpast a_mfar a_mdrift a_mline a_mtape a_mcommands _ m_changes m_thrown_v4 m_errorAt m_failedAt m_answer m_isSaved m_lined m_taped m_here m_commandMany m_s_36 x1 (4 + (r5 - 1)) hw) (cwV 2 hts gX7_cancels_X7_ofPlough rfl rfl rfl (by decide +kernel) ⟨Nat.le_of_ble_eq_true rfl, Nat.le_of_ble_eq_true rfl⟩) hE (gSub hP [0, 1]) (gDSub hD [0, 1] rfl) 0 11 rfl rfl rfl rfl rfl hl.1 rfl (lv_room (Nat.le_of_ble_eq_true rfl)) dX7_cancels_59 ⟨Nat.le_of_ble_eq_true rfl, Nat.le_of_ble_eq_true rfl⟩) hP hD hS hA [0, 1] rfl rfl rfl (fun r6 H locs hw hP hD hS => ?_)
      have hP : va_P g.1 vwCl (List.flatten [kMo g a_mo a_ms a_mwas a_mtried a_msaved a_mpast a_mfar a_mdrift a_mline a_mtape a_mcommands m_changes m_thrown_v4 m_errorAt m_failedAt m_answer m_isSaved m_lined m_taped m_here m_commandMany, kAr g a_ms 130 m_s_36]) H := hP
      have hD : va_D A (List.flatten [kMo g a_mo a_ms a_mwas a_mtried a_msaved a_mpast a_mfar a_mdrift a_mline a_mtape a_mcommands m_changes m_thrown_v4 m_errorAt m_failedAt m_answer m_isSaved m_lined m_taped m_here m_commandMany, kAr g a_ms 130 m_s_36]) := hD
      refine lv_istore_n (lv' := [(3, .int r6), (2, .int (r5 - 1)), (0, .ref (a_mo 0)), (1, .int x1)]) hx hb dX7_cancels_62 rfl hl (by decide) rfl (fun ls hl => ?_)
      refine lv_aload_n hx hb dX7_cancels_63 rfl (lv_at hl 2 rfl) ?_
      refine lv_iload_n hx hb dX7_cancels_64 rfl (lv_at hl 3 rfl) ?_
      refine lv_iconst (v := 4) hx hb dX7_cancels_65 (by decide) ?_
      refine lv_iload_n hx hb dX7_cancels_66 rfl (lv_at hl 1 rfl) ?_
      refine lv_iadd hx hb dX7_cancels_67 ?_
      refine lv_iconst (v := 0) hx hb dX7_cancels_68 (by decide) ?_
      refine gCv1 (gRunV (As := [.int x1, .int (4 + (r5 - 1)), .int 0]) (rest := []) ⟨hx, hb, hml, hown, hts⟩ (ctX7_setsPlough l g a_mo a_ms a_mwas a_mtried a_msaved a_mpast a_mfar a_mdrift a_mline a_mtape a_mcommands _ m_changes m_thrown_v4 m_errorAt m_failedAt m_answer m_isSaved m_lined m_taped m_here m_commandMany m_s_36 x1 (4 + (r5 - 1)) 0 hw) (cwV 3 hts gX7_cancels_X7_setsPlough rfl rfl rfl (by decide +kernel) ⟨Nat.le_of_ble_eq_true rfl, Nat.le_of_ble_eq_true rfl⟩) hE (gSub hP [0, 1]) (gDSub hD [0, 1] rfl) 0 11 rfl rfl rfl rfl rfl hl.1 rfl (lv_room (Nat.le_of_ble_eq_true rfl)) dX7_cancels_69 ⟨Nat.le_of_ble_eq_true rfl, Nat.le_of_ble_eq_true rfl⟩) hP hD hS hA [0, 1] rfl (fun _ => rfl) rfl (fun m_s_v7 H locs hw hP hD hS => ?_)
      have hP : va_P g.1 vwCl (List.flatten [kMo g a_mo a_ms a_mwas a_mtried a_msaved a_mpast a_mfar a_mdrift a_mline a_mtape a_mcommands m_changes m_thrown_v4 m_errorAt m_failedAt m_answer m_isSaved m_lined m_taped m_here m_commandMany, kAr g a_ms 130 m_s_v7]) H := hP
      have hD : va_D A (List.flatten [kMo g a_mo a_ms a_mwas a_mtried a_msaved a_mpast a_mfar a_mdrift a_mline a_mtape a_mcommands m_changes m_thrown_v4 m_errorAt m_failedAt m_answer m_isSaved m_lined m_taped m_here m_commandMany, kAr g a_ms 130 m_s_v7]) := hD
      refine lv_aload_n hx hb dX7_cancels_72 rfl (lv_at hl 2 rfl) ?_
      refine lv_iload_n hx hb dX7_cancels_73 rfl (lv_at hl 3 rfl) ?_
      refine lv_iconst (v := 3) hx hb dX7_cancels_74 (by decide) ?_
      refine lv_iload_n hx hb dX7_cancels_75 rfl (lv_at hl 1 rfl) ?_
      refine gCv1 (gRunV (As := [.int x1, .int 3, .int (r5 - 1)]) (rest := []) ⟨hx, hb, hml, hown, hts⟩ (ctX7_setsPlough l g a_mo a_ms a_mwas a_mtried a_msaved a_mpast a_mfar a_mdrift a_mline a_mtape a_mcommands _ m_changes m_thrown_v4 m_errorAt m_failedAt m_answer m_isSaved m_lined m_taped m_here m_commandMany m_s_v7 x1 3 (r5 - 1) hw) (cwV 3 hts gX7_cancels_X7_setsPlough rfl rfl rfl (by decide +kernel) ⟨Nat.le_of_ble_eq_true rfl, Nat.le_of_ble_eq_true rfl⟩) hE (gSub hP [0, 1]) (gDSub hD [0, 1] rfl) 0 11 rfl rfl rfl rfl rfl hl.1 rfl (lv_room (Nat.le_of_ble_eq_true rfl)) dX7_cancels_76 ⟨Nat.le_of_ble_eq_true rfl, Nat.le_of_ble_eq_true rfl⟩) hP hD hS hA [0, 1] rfl (fun _ => rfl) rfl (fun m_s_v8 H locs hw hP hD hS => ?_)
      have hP : va_P g.1 vwCl (List.flatten [kMo g a_mo a_ms a_mwas a_mtried a_msaved a_mpast a_mfar a_mdrift a_mline a_mtape a_mcommands m_changes m_thrown_v4 m_errorAt m_failedAt m_answer m_isSaved m_lined m_taped m_here m_commandMany, kAr g a_ms 130 m_s_v8]) H := hP
      have hD : va_D A (List.flatten [kMo g a_mo a_ms a_mwas a_mtried a_msaved a_mpast a_mfar a_mdrift a_mline a_mtape a_mcommands m_changes m_thrown_v4 m_errorAt m_failedAt m_answer m_isSaved m_lined m_taped m_here m_commandMany, kAr g a_ms 130 m_s_v8]) := hD
      refine lv_iload_n hx hb dX7_cancels_79 rfl (lv_at hl 0 rfl) ?_
      subst hQ
      exact W.iret hx hb hr (gRi2 (c1 := m_thrown_v4) (c2 := m_s_v8) (wf := _) hA0 hsz hw hP hD hS) hS.2.2 dX7_cancels_80
    · have hw := hw.2 c_40
      refine lv_iconst (v := 0) hx hb dX7_cancels_43 (by decide) ?_
      subst hQ
      exact W.iret hx hb hr (gRi2 (c1 := m_thrown_v4) (c2 := m_s_36) (wf := _) hA0 hsz hw hP hD hS) hS.2.2 dX7_cancels_44
  have J14 : ∀ (z1_14 : Int32) (m_thrown_14 : Int32) (m_s_14 : Nat → Int32) (H : Heap) (locs : List Loc) (ls : Array Slot), wpX7_cancels_L14 x1 post z1_14 m_thrown_14 m_s_14 → va_P g.1 vwCl (List.flatten [kMo g a_mo a_ms a_mwas a_mtried a_msaved a_mpast a_mfar a_mdrift a_mline a_mtape a_mcommands m_changes m_thrown_14 m_errorAt m_failedAt m_answer m_isSaved m_lined m_taped m_here m_commandMany, kAr g a_ms 130 m_s_14]) H → va_D A (List.flatten [kMo g a_mo a_ms a_mwas a_mtried a_msaved a_mpast a_mfar a_mdrift a_mline a_mtape a_mcommands m_changes m_thrown_14 m_errorAt m_failedAt m_answer m_isSaved m_lined m_taped m_here m_commandMany, kAr g a_ms 130 m_s_14]) → va_S A s.heap H locs → lv_has ls 4 [(0, .ref (a_mo 0)), (1, .int x1)] → W p l e rmX7_cancels s m (([.ref (a_mo 0), .int x1] : List Value).toArray) below meth c H locs 0 0 Q (F0 m 14 ls [.int z1_14, .ref (a_mo 0)]) := by
    intro z1_14 m_thrown_14 m_s_14 H locs ls hw hP hD hS hl
    refine lv_iconst (v := 1) hx hb dX7_cancels_14 (by decide) ?_
    refine gCi1 (gRunV (As := [.int z1_14, .int 1]) (rest := []) ⟨hx, hb, hml, hown, hts⟩ (ctX7_isThrown l g a_mo a_ms a_mwas a_mtried a_msaved a_mpast a_mfar a_mdrift a_mline a_mtape a_mcommands _ m_changes m_thrown_14 m_errorAt m_failedAt m_answer m_isSaved m_lined m_taped m_here m_commandMany z1_14 1 hw) (cwV 2 hts gX7_cancels_X7_isThrown rfl rfl rfl (by decide +kernel) ⟨Nat.le_of_ble_eq_true rfl, Nat.le_of_ble_eq_true rfl⟩) hE (gSub hP [0]) (gDSub hD [0] rfl) 0 11 rfl rfl rfl rfl rfl hl.1 rfl (lv_room (Nat.le_of_ble_eq_true rfl)) dX7_cancels_15 ⟨Nat.le_of_ble_eq_true rfl, Nat.le_of_ble_eq_true rfl⟩) hP hD hS hA [0] rfl (fun _ => rfl) rfl (fun r2 m_thrown_v2 H locs hw hP hD hS => ?_)
    have hP : va_P g.1 vwCl (List.flatten [kMo g a_mo a_ms a_mwas a_mtried a_msaved a_mpast a_mfar a_mdrift a_mline a_mtape a_mcommands m_changes m_thrown_v2 m_errorAt m_failedAt m_answer m_isSaved m_lined m_taped m_here m_commandMany, kAr g a_ms 130 m_s_14]) H := hP
    have hD : va_D A (List.flatten [kMo g a_mo a_ms a_mwas a_mtried a_msaved a_mpast a_mfar a_mdrift a_mline a_mtape a_mcommands m_changes m_thrown_v2 m_errorAt m_failedAt m_answer m_isSaved m_lined m_taped m_here m_commandMany, kAr g a_ms 130 m_s_14]) := hD
    refine lv_if_ne (tgt := 43) hx hb dX7_cancels_18 (by decide) (fun c_18 => ?_) (fun c_18 => ?_)
    · have hw := hw.1 c_18
      refine lv_iconst (v := 0) hx hb dX7_cancels_43 (by decide) ?_
      subst hQ
      exact W.iret hx hb hr (gRi2 (c1 := m_thrown_v2) (c2 := m_s_14) (wf := _) hA0 hsz hw hP hD hS) hS.2.2 dX7_cancels_44
    · have hw := hw.2 c_18
      refine lv_aload_n hx hb dX7_cancels_21 rfl (lv_at hl 0 rfl) ?_
      refine lv_aload_n hx hb dX7_cancels_22 rfl (lv_at hl 0 rfl) ?_
      refine lv_iload_n hx hb dX7_cancels_23 rfl (lv_at hl 1 rfl) ?_
      refine lv_iconst (v := 3) hx hb dX7_cancels_24 (by decide) ?_
      refine gCi0 (gRunV (As := [.int x1, .int 3]) (rest := [.ref (a_mo 0)]) ⟨hx, hb, hml, hown, hts⟩ (ctX7_ofPlough l g a_mo a_ms a_mwas a_mtried a_msaved a_mpast a_mfar a_mdrift a_mline a_mtape a_mcommands _ m_changes m_thrown_v2 m_errorAt m_failedAt m_answer m_isSaved m_lined m_taped m_here m_commandMany m_s_14 x1 3 hw) (cwV 2 hts gX7_cancels_X7_ofPlough rfl rfl rfl (by decide +kernel) ⟨Nat.le_of_ble_eq_true rfl, Nat.le_of_ble_eq_true rfl⟩) hE (gSub hP [0, 1]) (gDSub hD [0, 1] rfl) 0 11 rfl rfl rfl rfl rfl hl.1 rfl (lv_room (Nat.le_of_ble_eq_true rfl)) dX7_cancels_25 ⟨Nat.le_of_ble_eq_true rfl, Nat.le_of_ble_eq_true rfl⟩) hP hD hS hA [0, 1] rfl rfl rfl (fun r3 H locs hw hP hD hS => ?_)
      have hP : va_P g.1 vwCl (List.flatten [kMo g a_mo a_ms a_mwas a_mtried a_msaved a_mpast a_mfar a_mdrift a_mline a_mtape a_mcommands m_changes m_thrown_v2 m_errorAt m_failedAt m_answer m_isSaved m_lined m_taped m_here m_commandMany, kAr g a_ms 130 m_s_14]) H := hP
      have hD : va_D A (List.flatten [kMo g a_mo a_ms a_mwas a_mtried a_msaved a_mpast a_mfar a_mdrift a_mline a_mtape a_mcommands m_changes m_thrown_v2 m_errorAt m_failedAt m_answer m_isSaved m_lined m_taped m_here m_commandMany, kAr g a_ms 130 m_s_14]) := hD
      refine lv_if_ne (tgt := 35) hx hb dX7_cancels_28 (by decide) (fun c_28 => ?_) (fun c_28 => ?_)
      · have hw := hw.1 c_28
        refine lv_iconst (v := 0) hx hb dX7_cancels_35 (by decide) ?_
        exact J36 0 m_thrown_v2 m_s_14 _ _ _ hw hP hD hS (lv_sub hl [0, 1] rfl)
      · have hw := hw.2 c_28
        refine lv_iconst (v := 1) hx hb dX7_cancels_31 (by decide) ?_
        refine lv_goto (tgt := 36) hx hb dX7_cancels_32 (by decide) ?_
        exact J36 1 m_thrown_v2 m_s_14 _ _ _ hw hP hD hS (lv_sub hl [0, 1] rfl)
  refine lv_aload_n hx hb dX7_cancels_0 rfl (lv_at hl 0 rfl) ?_
  refine lv_aload_n hx hb dX7_cancels_1 rfl (lv_at hl 0 rfl) ?_
  refine lv_iload_n hx hb dX7_cancels_2 rfl (lv_at hl 1 rfl) ?_
  refine gCi0 (gRunV (As := [.int x1]) (rest := [.ref (a_mo 0)]) ⟨hx, hb, hml, hown, hts⟩ (ctX7_isPlough l g a_mo a_ms a_mwas a_mtried a_msaved a_mpast a_mfar a_mdrift a_mline a_mtape a_mcommands _ m_changes m_thrown m_errorAt m_failedAt m_answer m_isSaved m_lined m_taped m_here m_commandMany m_s x1 hw) (cwV 1 hts gX7_cancels_X7_isPlough rfl rfl rfl (by decide +kernel) ⟨Nat.le_of_ble_eq_true rfl, Nat.le_of_ble_eq_true rfl⟩) hE (gSub hP [0, 1]) (gDSub hD [0, 1] rfl) 0 11 rfl rfl rfl rfl rfl hl.1 rfl (lv_room (Nat.le_of_ble_eq_true rfl)) dX7_cancels_3 ⟨Nat.le_of_ble_eq_true rfl, Nat.le_of_ble_eq_true rfl⟩) hP hD hS hA [0, 1] rfl rfl rfl (fun r1 H locs hw hP hD hS => ?_)
  have hP : va_P g.1 vwCl (List.flatten [kMo g a_mo a_ms a_mwas a_mtried a_msaved a_mpast a_mfar a_mdrift a_mline a_mtape a_mcommands m_changes m_thrown m_errorAt m_failedAt m_answer m_isSaved m_lined m_taped m_here m_commandMany, kAr g a_ms 130 m_s]) H := hP
  have hD : va_D A (List.flatten [kMo g a_mo a_ms a_mwas a_mtried a_msaved a_mpast a_mfar a_mdrift a_mline a_mtape a_mcommands m_changes m_thrown m_errorAt m_failedAt m_answer m_isSaved m_lined m_taped m_here m_commandMany, kAr g a_ms 130 m_s]) := hD
  refine lv_if_ne (tgt := 13) hx hb dX7_cancels_6 (by decide) (fun c_6 => ?_) (fun c_6 => ?_)
  · have hw := hw.1 c_6
    refine lv_iconst (v := 0) hx hb dX7_cancels_13 (by decide) ?_
    exact J14 0 m_thrown m_s _ _ _ hw hP hD hS (lv_sub hl [0, 1] rfl)
  · have hw := hw.2 c_6
    refine lv_iconst (v := 1) hx hb dX7_cancels_9 (by decide) ?_
    refine lv_goto (tgt := 14) hx hb dX7_cancels_10 (by decide) ?_
    exact J14 1 m_thrown m_s _ _ _ hw hP hD hS (lv_sub hl [0, 1] rfl)
abbrev rmX7_cancelOrder : Room := { frames := 4, cells := 0, slots := 0, locals := 169 }
set_option maxRecDepth 20000 in
theorem inX7_cancelOrder_X7 : ∀ w ∈ wsX70, w ∈ wsX7_cancelOrder := by decide +kernel
set_option maxHeartbeats 4000000 in
set_option maxRecDepth 100000 in
theorem ctX7_cancelOrder (l : Launch) (g : GG) (a_mo : Nat → Nat) (a_ms : Nat → Nat) (a_mwas : Nat → Nat) (a_mtried : Nat → Nat) (a_msaved : Nat → Nat) (a_mpast : Nat → Nat) (a_mfar : Nat → Nat) (a_mdrift : Nat → Nat) (a_mline : Nat → Nat) (a_mtape : Nat → Nat) (a_mcommands : Nat → Nat) (sz : Nat) (m_changes : Int32) (m_thrown : Int32) (m_errorAt : Int32) (m_failedAt : Int32) (m_answer : Int32) (m_isSaved : Int32) (m_lined : Int32) (m_taped : Int32) (m_here : Int32) (m_commandMany : Int32) (m_s : Nat → Int32) (m_was : Nat → Int32) (m_past : Nat → Int32) (x1 : Int32) {post : Int32 → Int32 → Int32 → (Nat → Int32) → (Nat → Int32) → (Nat → Int32) → Prop} (hw : wpX7_cancelOrder x1 m_changes m_thrown m_s m_was m_past post) :
    Met l yX7_cancelOrder wsX7_cancelOrder rmX7_cancelOrder (gPc g sz (List.flatten [kMo g a_mo a_ms a_mwas a_mtried a_msaved a_mpast a_mfar a_mdrift a_mline a_mtape a_mcommands m_changes m_thrown m_errorAt m_failedAt m_answer m_isSaved m_lined m_taped m_here m_commandMany, kAr g a_ms 130 m_s, kAr g a_mwas 130 m_was, kAr g a_mpast 1040 m_past]) [.ref (a_mo 0), .int x1]) (gQi5 post (fun u1 u2 u3 u4 u5 => gB g (List.flatten [kMo g a_mo a_ms a_mwas a_mtried a_msaved a_mpast a_mfar a_mdrift a_mline a_mtape a_mcommands m_changes m_thrown m_errorAt m_failedAt m_answer m_isSaved m_lined m_taped m_here m_commandMany, kAr g a_ms 130 m_s, kAr g a_mwas 130 m_was, kAr g a_mpast 1040 m_past]) sz (List.flatten [kMo g a_mo a_ms a_mwas a_mtried a_msaved a_mpast a_mfar a_mdrift a_mline a_mtape a_mcommands u1 u2 m_errorAt m_failedAt m_answer m_isSaved m_lined m_taped m_here m_commandMany, kAr g a_ms 130 u3, kAr g a_mwas 130 u4, kAr g a_mpast 1040 u5])) (va_A (List.flatten [kMo g a_mo a_ms a_mwas a_mtried a_msaved a_mpast a_mfar a_mdrift a_mline a_mtape a_mcommands m_changes m_thrown m_errorAt m_failedAt m_answer m_isSaved m_lined m_taped m_here m_commandMany, kAr g a_ms 130 m_s, kAr g a_mwas 130 m_was, kAr g a_mpast 1040 m_past]) sz)) 0 0 (va_A (List.flatten [kMo g a_mo a_ms a_mwas a_mtried a_msaved a_mpast a_mfar a_mdrift a_mline a_mtape a_mcommands m_changes m_thrown m_errorAt m_failedAt m_answer m_isSaved m_lined m_taped m_here m_commandMany, kAr g a_ms 130 m_s, kAr g a_mwas 130 m_was, kAr g a_mpast 1040 m_past]) sz) := by
  refine gOf (cc := cX7_cancelOrder) (maxL := 2) (ret := (some .int)) (by decide) rfl (Nat.le_of_ble_eq_true rfl) ?_
  intro p e s m below meth c ls Q A hQ hx hb hr hml hts hown hlocks hE hA0 hsz hP hD hA hS hl
  have hl : lv_has ls 2 [(0, .ref (a_mo 0)), (1, .int x1)] := hl
  refine lv_aload_n hx hb dX7_cancelOrder_0 rfl (lv_at hl 0 rfl) ?_
  refine gCv2 (gRunV (As := []) (rest := []) ⟨hx, hb, hml, hown, hts⟩ (ctX7_keeps l g a_mo a_ms a_mwas a_mtried a_msaved a_mpast a_mfar a_mdrift a_mline a_mtape a_mcommands _ m_changes m_thrown m_errorAt m_failedAt m_answer m_isSaved m_lined m_taped m_here m_commandMany m_s m_was hw) (cwV 0 hts gX7_cancelOrder_X7_keeps rfl rfl rfl (by decide +kernel) ⟨Nat.le_of_ble_eq_true rfl, Nat.le_of_ble_eq_true rfl⟩) hE (gSub hP [0, 1, 2]) (gDSub hD [0, 1, 2] rfl) 0 11 rfl rfl rfl rfl rfl hl.1 rfl (lv_room (Nat.le_of_ble_eq_true rfl)) dX7_cancelOrder_1 ⟨Nat.le_of_ble_eq_true rfl, Nat.le_of_ble_eq_true rfl⟩) hP hD hS hA [0, 1, 2] rfl (fun _ _ => rfl) rfl (fun m_thrown_v1 m_was_v1 H locs hw hP hD hS => ?_)
  have hP : va_P g.1 vwCl (List.flatten [kMo g a_mo a_ms a_mwas a_mtried a_msaved a_mpast a_mfar a_mdrift a_mline a_mtape a_mcommands m_changes m_thrown_v1 m_errorAt m_failedAt m_answer m_isSaved m_lined m_taped m_here m_commandMany, kAr g a_ms 130 m_s, kAr g a_mwas 130 m_was_v1, kAr g a_mpast 1040 m_past]) H := hP
  have hD : va_D A (List.flatten [kMo g a_mo a_ms a_mwas a_mtried a_msaved a_mpast a_mfar a_mdrift a_mline a_mtape a_mcommands m_changes m_thrown_v1 m_errorAt m_failedAt m_answer m_isSaved m_lined m_taped m_here m_commandMany, kAr g a_ms 130 m_s, kAr g a_mwas 130 m_was_v1, kAr g a_mpast 1040 m_past]) := hD
  refine lv_aload_n hx hb dX7_cancelOrder_4 rfl (lv_at hl 0 rfl) ?_
  refine lv_aload_n hx hb dX7_cancelOrder_5 rfl (lv_at hl 0 rfl) ?_
  refine lv_iload_n hx hb dX7_cancelOrder_6 rfl (lv_at hl 1 rfl) ?_
  refine gCi2 (gRunV (As := [.int x1]) (rest := [.ref (a_mo 0)]) ⟨hx, hb, hml, hown, hts⟩ (ctX7_cancels l g a_mo a_ms a_mwas a_mtried a_msaved a_mpast a_mfar a_mdrift a_mline a_mtape a_mcommands _ m_changes m_thrown_v1 m_errorAt m_failedAt m_answer m_isSaved m_lined m_taped m_here m_commandMany m_s x1 hw) (cwV 1 hts gX7_cancelOrder_X7_cancels rfl rfl rfl (by decide +kernel) ⟨Nat.le_of_ble_eq_true rfl, Nat.le_of_ble_eq_true rfl⟩) hE (gSub hP [0, 1]) (gDSub hD [0, 1] rfl) 0 11 rfl rfl rfl rfl rfl hl.1 rfl (lv_room (Nat.le_of_ble_eq_true rfl)) dX7_cancelOrder_7 ⟨Nat.le_of_ble_eq_true rfl, Nat.le_of_ble_eq_true rfl⟩) hP hD hS hA [0, 1] rfl (fun _ _ => rfl) rfl (fun r2 m_thrown_v2 m_s_v2 H locs hw hP hD hS => ?_)
  have hP : va_P g.1 vwCl (List.flatten [kMo g a_mo a_ms a_mwas a_mtried a_msaved a_mpast a_mfar a_mdrift a_mline a_mtape a_mcommands m_changes m_thrown_v2 m_errorAt m_failedAt m_answer m_isSaved m_lined m_taped m_here m_commandMany, kAr g a_ms 130 m_s_v2, kAr g a_mwas 130 m_was_v1, kAr g a_mpast 1040 m_past]) H := hP
  have hD : va_D A (List.flatten [kMo g a_mo a_ms a_mwas a_mtried a_msaved a_mpast a_mfar a_mdrift a_mline a_mtape a_mcommands m_changes m_thrown_v2 m_errorAt m_failedAt m_answer m_isSaved m_lined m_taped m_here m_commandMany, kAr g a_ms 130 m_s_v2, kAr g a_mwas 130 m_was_v1, kAr g a_mpast 1040 m_past]) := hD
  refine gCi2 (gRunV (As := [.int r2]) (rest := []) ⟨hx, hb, hml, hown, hts⟩ (ctX7_ends l g a_mo a_ms a_mwas a_mtried a_msaved a_mpast a_mfar a_mdrift a_mline a_mtape a_mcommands _ m_changes m_thrown_v2 m_errorAt m_failedAt m_answer m_isSaved m_lined m_taped m_here m_commandMany m_was_v1 m_past r2 hw) (cwV 1 hts gX7_cancelOrder_X7_ends rfl rfl rfl (by decide +kernel) ⟨Nat.le_of_ble_eq_true rfl, Nat.le_of_ble_eq_true rfl⟩) hE (gSub hP [0, 2, 3]) (gDSub hD [0, 2, 3] rfl) 0 11 rfl rfl rfl rfl rfl hl.1 rfl (lv_room (Nat.le_of_ble_eq_true rfl)) dX7_cancelOrder_10 ⟨Nat.le_of_ble_eq_true rfl, Nat.le_of_ble_eq_true rfl⟩) hP hD hS hA [0, 2, 3] rfl (fun _ _ => rfl) rfl (fun r3 m_changes_v3 m_past_v3 H locs hw hP hD hS => ?_)
  have hP : va_P g.1 vwCl (List.flatten [kMo g a_mo a_ms a_mwas a_mtried a_msaved a_mpast a_mfar a_mdrift a_mline a_mtape a_mcommands m_changes_v3 m_thrown_v2 m_errorAt m_failedAt m_answer m_isSaved m_lined m_taped m_here m_commandMany, kAr g a_ms 130 m_s_v2, kAr g a_mwas 130 m_was_v1, kAr g a_mpast 1040 m_past_v3]) H := hP
  have hD : va_D A (List.flatten [kMo g a_mo a_ms a_mwas a_mtried a_msaved a_mpast a_mfar a_mdrift a_mline a_mtape a_mcommands m_changes_v3 m_thrown_v2 m_errorAt m_failedAt m_answer m_isSaved m_lined m_taped m_here m_commandMany, kAr g a_ms 130 m_s_v2, kAr g a_mwas 130 m_was_v1, kAr g a_mpast 1040 m_past_v3]) := hD
  subst hQ
  exact W.iret hx hb hr (gRi5 (c1 := m_changes_v3) (c2 := m_thrown_v2) (c3 := m_s_v2) (c4 := m_was_v1) (c5 := m_past_v3) (wf := _) hA0 hsz hw hP hD hS) hS.2.2 dX7_cancelOrder_13
abbrev rmX7_salts : Room := { frames := 3, cells := 0, slots := 0, locals := 145 }
set_option maxRecDepth 20000 in
theorem inX7_salts_X7 : ∀ w ∈ wsX70, w ∈ wsX7_salts := by decide +kernel
set_option maxHeartbeats 4000000 in
set_option maxRecDepth 100000 in
theorem ctX7_salts (l : Launch) (g : GG) (a_mo : Nat → Nat) (a_ms : Nat → Nat) (a_mwas : Nat → Nat) (a_mtried : Nat → Nat) (a_msaved : Nat → Nat) (a_mpast : Nat → Nat) (a_mfar : Nat → Nat) (a_mdrift : Nat → Nat) (a_mline : Nat → Nat) (a_mtape : Nat → Nat) (a_mcommands : Nat → Nat) (sz : Nat) (m_changes : Int32) (m_thrown : Int32) (m_errorAt : Int32) (m_failedAt : Int32) (m_answer : Int32) (m_isSaved : Int32) (m_lined : Int32) (m_taped : Int32) (m_here : Int32) (m_commandMany : Int32) (m_s : Nat → Int32) (x1 : Int32) {post : Int32 → Int32 → (Nat → Int32) → Prop} (hw : wpX7_salts x1 m_thrown m_s post) :
    Met l yX7_salts wsX7_salts rmX7_salts (gPc g sz (List.flatten [kMo g a_mo a_ms a_mwas a_mtried a_msaved a_mpast a_mfar a_mdrift a_mline a_mtape a_mcommands m_changes m_thrown m_errorAt m_failedAt m_answer m_isSaved m_lined m_taped m_here m_commandMany, kAr g a_ms 130 m_s]) [.ref (a_mo 0), .int x1]) (gQi2 post (fun u1 u2 => gB g (List.flatten [kMo g a_mo a_ms a_mwas a_mtried a_msaved a_mpast a_mfar a_mdrift a_mline a_mtape a_mcommands m_changes m_thrown m_errorAt m_failedAt m_answer m_isSaved m_lined m_taped m_here m_commandMany, kAr g a_ms 130 m_s]) sz (List.flatten [kMo g a_mo a_ms a_mwas a_mtried a_msaved a_mpast a_mfar a_mdrift a_mline a_mtape a_mcommands m_changes u1 m_errorAt m_failedAt m_answer m_isSaved m_lined m_taped m_here m_commandMany, kAr g a_ms 130 u2])) (va_A (List.flatten [kMo g a_mo a_ms a_mwas a_mtried a_msaved a_mpast a_mfar a_mdrift a_mline a_mtape a_mcommands m_changes m_thrown m_errorAt m_failedAt m_answer m_isSaved m_lined m_taped m_here m_commandMany, kAr g a_ms 130 m_s]) sz)) 0 0 (va_A (List.flatten [kMo g a_mo a_ms a_mwas a_mtried a_msaved a_mpast a_mfar a_mdrift a_mline a_mtape a_mcommands m_changes m_thrown m_errorAt m_failedAt m_answer m_isSaved m_lined m_taped m_here m_commandMany, kAr g a_ms 130 m_s]) sz) := by
  refine gOf (cc := cX7_salts) (maxL := 2) (ret := (some .int)) (by decide) rfl (Nat.le_of_ble_eq_true rfl) ?_
  intro p e s m below meth c ls Q A hQ hx hb hr hml hts hown hlocks hE hA0 hsz hP hD hA hS hl
  have hl : lv_has ls 2 [(0, .ref (a_mo 0)), (1, .int x1)] := hl
  have J55 : ∀ (z1_55 : Int32) (m_thrown_55 : Int32) (m_s_55 : Nat → Int32) (H : Heap) (locs : List Loc) (ls : Array Slot), wpX7_salts_L55 x1 post z1_55 m_thrown_55 m_s_55 → va_P g.1 vwCl (List.flatten [kMo g a_mo a_ms a_mwas a_mtried a_msaved a_mpast a_mfar a_mdrift a_mline a_mtape a_mcommands m_changes m_thrown_55 m_errorAt m_failedAt m_answer m_isSaved m_lined m_taped m_here m_commandMany, kAr g a_ms 130 m_s_55]) H → va_D A (List.flatten [kMo g a_mo a_ms a_mwas a_mtried a_msaved a_mpast a_mfar a_mdrift a_mline a_mtape a_mcommands m_changes m_thrown_55 m_errorAt m_failedAt m_answer m_isSaved m_lined m_taped m_here m_commandMany, kAr g a_ms 130 m_s_55]) → va_S A s.heap H locs → lv_has ls 2 [(0, .ref (a_mo 0)), (1, .int x1)] → W p l e rmX7_salts s m (([.ref (a_mo 0), .int x1] : List Value).toArray) below meth c H locs 0 0 Q (F0 m 55 ls [.int z1_55, .ref (a_mo 0)]) := by
    intro z1_55 m_thrown_55 m_s_55 H locs ls hw hP hD hS hl
    refine lv_iconst (v := 3) hx hb dX7_salts_55 (by decide) ?_
    refine gCi1 (gRunV (As := [.int z1_55, .int 3]) (rest := []) ⟨hx, hb, hml, hown, hts⟩ (ctX7_isThrown l g a_mo a_ms a_mwas a_mtried a_msaved a_mpast a_mfar a_mdrift a_mline a_mtape a_mcommands _ m_changes m_thrown_55 m_errorAt m_failedAt m_answer m_isSaved m_lined m_taped m_here m_commandMany z1_55 3 hw) (cwV 2 hts gX7_salts_X7_isThrown rfl rfl rfl (by decide +kernel) ⟨Nat.le_of_ble_eq_true rfl, Nat.le_of_ble_eq_true rfl⟩) hE (gSub hP [0]) (gDSub hD [0] rfl) 0 11 rfl rfl rfl rfl rfl hl.1 rfl (lv_room (Nat.le_of_ble_eq_true rfl)) dX7_salts_56 ⟨Nat.le_of_ble_eq_true rfl, Nat.le_of_ble_eq_true rfl⟩) hP hD hS hA [0] rfl (fun _ => rfl) rfl (fun r7 m_thrown_v7 H locs hw hP hD hS => ?_)
    have hP : va_P g.1 vwCl (List.flatten [kMo g a_mo a_ms a_mwas a_mtried a_msaved a_mpast a_mfar a_mdrift a_mline a_mtape a_mcommands m_changes m_thrown_v7 m_errorAt m_failedAt m_answer m_isSaved m_lined m_taped m_here m_commandMany, kAr g a_ms 130 m_s_55]) H := hP
    have hD : va_D A (List.flatten [kMo g a_mo a_ms a_mwas a_mtried a_msaved a_mpast a_mfar a_mdrift a_mline a_mtape a_mcommands m_changes m_thrown_v7 m_errorAt m_failedAt m_answer m_isSaved m_lined m_taped m_here m_commandMany, kAr g a_ms 130 m_s_55]) := hD
    refine lv_if_eq (tgt := 64) hx hb dX7_salts_59 (by decide) (fun c_59 => ?_) (fun c_59 => ?_)
    · have hw := hw.1 c_59
      refine lv_aload_n hx hb dX7_salts_64 rfl (lv_at hl 0 rfl) ?_
      refine va_get (D := g.1) (ci := 11) (v := .ref (a_ms 0)) (C := RX7) (T := TX7) (N := 20) hx hb hts inX7_salts_X7 hown hE.1 hP 0 rfl rfl 0 (by decide) (gW hts 1 (.fieldLink RX7 9 "SnowDispatcherModel" "s" "[I") rfl) (fun _ h9 => h9) rfl dX7_salts_65 ?_
      refine lv_iconst (v := 3) hx hb dX7_salts_68 (by decide) ?_
      refine lv_dup2_11 hx hb dX7_salts_69 rfl rfl ?_
      have h8 := hw.1
      have hw := hw.2
      refine va_iald hx hb hE.1 hP 1 0 rfl rfl h8 dX7_salts_70 ?_
      refine lv_aload_n hx hb dX7_salts_71 rfl (lv_at hl 0 rfl) ?_
      refine lv_iload_n hx hb dX7_salts_72 rfl (lv_at hl 1 rfl) ?_
      refine lv_iconst (v := 3) hx hb dX7_salts_73 (by decide) ?_
      refine gCi0 (gRunV (As := [.int x1, .int 3]) (rest := [.int (m_s_55 (3 : Int32).toNatClampNeg), .int 3, .ref (a_ms 0)]) ⟨hx, hb, hml, hown, hts⟩ (ctX7_of l g a_mo a_ms a_mwas a_mtried a_msaved a_mpast a_mfar a_mdrift a_mline a_mtape a_mcommands _ m_changes m_thrown_v7 m_errorAt m_failedAt m_answer m_isSaved m_lined m_taped m_here m_commandMany m_s_55 x1 3 hw) (cwV 2 hts gX7_salts_X7_of rfl rfl rfl (by decide +kernel) ⟨Nat.le_of_ble_eq_true rfl, Nat.le_of_ble_eq_true rfl⟩) hE (gSub hP [0, 1]) (gDSub hD [0, 1] rfl) 0 11 rfl rfl rfl rfl rfl hl.1 rfl (lv_room (Nat.le_of_ble_eq_true rfl)) dX7_salts_74 ⟨Nat.le_of_ble_eq_true rfl, Nat.le_of_ble_eq_true rfl⟩) hP hD hS hA [0, 1] rfl rfl rfl (fun r9 H locs hw hP hD hS => ?_)
      have hP : va_P g.1 vwCl (List.flatten [kMo g a_mo a_ms a_mwas a_mtried a_msaved a_mpast a_mfar a_mdrift a_mline a_mtape a_mcommands m_changes m_thrown_v7 m_errorAt m_failedAt m_answer m_isSaved m_lined m_taped m_here m_commandMany, kAr g a_ms 130 m_s_55]) H := hP
      have hD : va_D A (List.flatten [kMo g a_mo a_ms a_mwas a_mtried a_msaved a_mpast a_mfar a_mdrift a_mline a_mtape a_mcommands m_changes m_thrown_v7 m_errorAt m_failedAt m_answer m_isSaved m_lined m_taped m_here m_commandMany, kAr g a_ms 130 m_s_55]) := hD
      refine lv_isub hx hb dX7_salts_77 ?_
      have h10 := hw.1
      have hw := hw.2
      refine va_iast hx hb hE.1 hP hD hS 1 0 rfl rfl h10 dX7_salts_78 (fun H locs hP hD hS => ?_)
      have hP : va_P g.1 vwCl (List.flatten [kMo g a_mo a_ms a_mwas a_mtried a_msaved a_mpast a_mfar a_mdrift a_mline a_mtape a_mcommands m_changes m_thrown_v7 m_errorAt m_failedAt m_answer m_isSaved m_lined m_taped m_here m_commandMany, kAr g a_ms 130 (upd m_s_55 (3 : Int32).toNatClampNeg ((m_s_55 (3 : Int32).toNatClampNeg) - r9))]) H := hP
      have hD : va_D A (List.flatten [kMo g a_mo a_ms a_mwas a_mtried a_msaved a_mpast a_mfar a_mdrift a_mline a_mtape a_mcommands m_changes m_thrown_v7 m_errorAt m_failedAt m_answer m_isSaved m_lined m_taped m_here m_commandMany, kAr g a_ms 130 (upd m_s_55 (3 : Int32).toNatClampNeg ((m_s_55 (3 : Int32).toNatClampNeg) - r9))]) := hD
      refine lv_aload_n hx hb dX7_salts_79 rfl (lv_at hl 0 rfl) ?_
      refine lv_iload_n hx hb dX7_salts_80 rfl (lv_at hl 1 rfl) ?_
      refine lv_iconst (v := 5) hx hb dX7_salts_81 (by decide) ?_
      refine lv_aload_n hx hb dX7_salts_82 rfl (lv_at hl 0 rfl) ?_
      refine va_get (D := g.1) (ci := 11) (v := .ref (a_ms 0)) (C := RX7) (T := TX7) (N := 20) hx hb hts inX7_salts_X7 hown hE.1 hP 0 rfl rfl 0 (by decide) (gW hts 1 (.fieldLink RX7 9 "SnowDispatcherModel" "s" "[I") rfl) (fun _ h9 => h9) rfl dX7_salts_83 ?_
      refine lv_iconst (v := 0) hx hb dX7_salts_86 (by decide) ?_
      have h11 := hw.1
      have hw := hw.2
      refine va_iald hx hb hE.1 hP 1 0 rfl rfl h11 dX7_salts_87 ?_
      refine lv_sipush (v := 240) hx hb dX7_salts_88 (by decide) ?_
      refine lv_iadd hx hb dX7_salts_91 ?_
      refine gCv1 (gRunV (As := [.int x1, .int 5, .int (((upd m_s_55 (3 : Int32).toNatClampNeg ((m_s_55 (3 : Int32).toNatClampNeg) - r9)) (0 : Int32).toNatClampNeg) + 240)]) (rest := []) ⟨hx, hb, hml, hown, hts⟩ (ctX7_sets l g a_mo a_ms a_mwas a_mtried a_msaved a_mpast a_mfar a_mdrift a_mline a_mtape a_mcommands _ m_changes m_thrown_v7 m_errorAt m_failedAt m_answer m_isSaved m_lined m_taped m_here m_commandMany (upd m_s_55 (3 : Int32).toNatClampNeg ((m_s_55 (3 : Int32).toNatClampNeg) - r9)) x1 5 (((upd m_s_55 (3 : Int32).toNatClampNeg ((m_s_55 (3 : Int32).toNatClampNeg) - r9)) (0 : Int32).toNatClampNeg) + 240) hw) (cwV 3 hts gX7_salts_X7_sets rfl rfl rfl (by decide +kernel) ⟨Nat.le_of_ble_eq_true rfl, Nat.le_of_ble_eq_true rfl⟩) hE (gSub hP [0, 1]) (gDSub hD [0, 1] rfl) 0 11 rfl rfl rfl rfl rfl hl.1 rfl (lv_room (Nat.le_of_ble_eq_true rfl)) dX7_salts_92 ⟨Nat.le_of_ble_eq_true rfl, Nat.le_of_ble_eq_true rfl⟩) hP hD hS hA [0, 1] rfl (fun _ => rfl) rfl (fun m_s_v12 H locs hw hP hD hS => ?_)
      have hP : va_P g.1 vwCl (List.flatten [kMo g a_mo a_ms a_mwas a_mtried a_msaved a_mpast a_mfar a_mdrift a_mline a_mtape a_mcommands m_changes m_thrown_v7 m_errorAt m_failedAt m_answer m_isSaved m_lined m_taped m_here m_commandMany, kAr g a_ms 130 m_s_v12]) H := hP
      have hD : va_D A (List.flatten [kMo g a_mo a_ms a_mwas a_mtried a_msaved a_mpast a_mfar a_mdrift a_mline a_mtape a_mcommands m_changes m_thrown_v7 m_errorAt m_failedAt m_answer m_isSaved m_lined m_taped m_here m_commandMany, kAr g a_ms 130 m_s_v12]) := hD
      refine lv_aload_n hx hb dX7_salts_95 rfl (lv_at hl 0 rfl) ?_
      refine va_get (D := g.1) (ci := 11) (v := .ref (a_ms 0)) (C := RX7) (T := TX7) (N := 20) hx hb hts inX7_salts_X7 hown hE.1 hP 0 rfl rfl 0 (by decide) (gW hts 1 (.fieldLink RX7 9 "SnowDispatcherModel" "s" "[I") rfl) (fun _ h9 => h9) rfl dX7_salts_96 ?_
      refine lv_iconst (v := 3) hx hb dX7_salts_99 (by decide) ?_
      have h13 := hw.1
      have hw := hw.2
      refine va_iald hx hb hE.1 hP 1 0 rfl rfl h13 dX7_salts_100 ?_
      subst hQ
      exact W.iret hx hb hr (gRi2 (c1 := m_thrown_v7) (c2 := m_s_v12) (wf := _) hA0 hsz hw hP hD hS) hS.2.2 dX7_salts_101
    · have hw := hw.2 c_59
      refine lv_iconst (v := 0) hx hb dX7_salts_62 (by decide) ?_
      subst hQ
      exact W.iret hx hb hr (gRi2 (c1 := m_thrown_v7) (c2 := m_s_55) (wf := _) hA0 hsz hw hP hD hS) hS.2.2 dX7_salts_63
  have J14 : ∀ (z1_14 : Int32) (m_thrown_14 : Int32) (m_s_14 : Nat → Int32) (H : Heap) (locs : List Loc) (ls : Array Slot), wpX7_salts_L14 x1 post z1_14 m_thrown_14 m_s_14 → va_P g.1 vwCl (List.flatten [kMo g a_mo a_ms a_mwas a_mtried a_msaved a_mpast a_mfar a_mdrift a_mline a_mtape a_mcommands m_changes m_thrown_14 m_errorAt m_failedAt m_answer m_isSaved m_lined m_taped m_here m_commandMany, kAr g a_ms 130 m_s_14]) H → va_D A (List.flatten [kMo g a_mo a_ms a_mwas a_mtried a_msaved a_mpast a_mfar a_mdrift a_mline a_mtape a_mcommands m_changes m_thrown_14 m_errorAt m_failedAt m_answer m_isSaved m_lined m_taped m_here m_commandMany, kAr g a_ms 130 m_s_14]) → va_S A s.heap H locs → lv_has ls 2 [(0, .ref (a_mo 0)), (1, .int x1)] → W p l e rmX7_salts s m (([.ref (a_mo 0), .int x1] : List Value).toArray) below meth c H locs 0 0 Q (F0 m 14 ls [.int z1_14, .ref (a_mo 0)]) := by
    intro z1_14 m_thrown_14 m_s_14 H locs ls hw hP hD hS hl
    refine lv_iconst (v := 1) hx hb dX7_salts_14 (by decide) ?_
    refine gCi1 (gRunV (As := [.int z1_14, .int 1]) (rest := []) ⟨hx, hb, hml, hown, hts⟩ (ctX7_isThrown l g a_mo a_ms a_mwas a_mtried a_msaved a_mpast a_mfar a_mdrift a_mline a_mtape a_mcommands _ m_changes m_thrown_14 m_errorAt m_failedAt m_answer m_isSaved m_lined m_taped m_here m_commandMany z1_14 1 hw) (cwV 2 hts gX7_salts_X7_isThrown rfl rfl rfl (by decide +kernel) ⟨Nat.le_of_ble_eq_true rfl, Nat.le_of_ble_eq_true rfl⟩) hE (gSub hP [0]) (gDSub hD [0] rfl) 0 11 rfl rfl rfl rfl rfl hl.1 rfl (lv_room (Nat.le_of_ble_eq_true rfl)) dX7_salts_15 ⟨Nat.le_of_ble_eq_true rfl, Nat.le_of_ble_eq_true rfl⟩) hP hD hS hA [0] rfl (fun _ => rfl) rfl (fun r2 m_thrown_v2 H locs hw hP hD hS => ?_)
    have hP : va_P g.1 vwCl (List.flatten [kMo g a_mo a_ms a_mwas a_mtried a_msaved a_mpast a_mfar a_mdrift a_mline a_mtape a_mcommands m_changes m_thrown_v2 m_errorAt m_failedAt m_answer m_isSaved m_lined m_taped m_here m_commandMany, kAr g a_ms 130 m_s_14]) H := hP
    have hD : va_D A (List.flatten [kMo g a_mo a_ms a_mwas a_mtried a_msaved a_mpast a_mfar a_mdrift a_mline a_mtape a_mcommands m_changes m_thrown_v2 m_errorAt m_failedAt m_answer m_isSaved m_lined m_taped m_here m_commandMany, kAr g a_ms 130 m_s_14]) := hD
    refine lv_if_ne (tgt := 62) hx hb dX7_salts_18 (by decide) (fun c_18 => ?_) (fun c_18 => ?_)
    · have hw := hw.1 c_18
      refine lv_iconst (v := 0) hx hb dX7_salts_62 (by decide) ?_
      subst hQ
      exact W.iret hx hb hr (gRi2 (c1 := m_thrown_v2) (c2 := m_s_14) (wf := _) hA0 hsz hw hP hD hS) hS.2.2 dX7_salts_63
    · have hw := hw.2 c_18
      refine lv_aload_n hx hb dX7_salts_21 rfl (lv_at hl 0 rfl) ?_
      refine lv_aload_n hx hb dX7_salts_22 rfl (lv_at hl 0 rfl) ?_
      refine lv_iload_n hx hb dX7_salts_23 rfl (lv_at hl 1 rfl) ?_
      refine gCi0 (gRunV (As := [.int x1]) (rest := [.ref (a_mo 0)]) ⟨hx, hb, hml, hown, hts⟩ (ctX7_salted l g a_mo a_ms a_mwas a_mtried a_msaved a_mpast a_mfar a_mdrift a_mline a_mtape a_mcommands _ m_changes m_thrown_v2 m_errorAt m_failedAt m_answer m_isSaved m_lined m_taped m_here m_commandMany m_s_14 x1 hw) (cwV 1 hts gX7_salts_X7_salted rfl rfl rfl (by decide +kernel) ⟨Nat.le_of_ble_eq_true rfl, Nat.le_of_ble_eq_true rfl⟩) hE (gSub hP [0, 1]) (gDSub hD [0, 1] rfl) 0 11 rfl rfl rfl rfl rfl hl.1 rfl (lv_room (Nat.le_of_ble_eq_true rfl)) dX7_salts_24 ⟨Nat.le_of_ble_eq_true rfl, Nat.le_of_ble_eq_true rfl⟩) hP hD hS hA [0, 1] rfl rfl rfl (fun r3 H locs hw hP hD hS => ?_)
      have hP : va_P g.1 vwCl (List.flatten [kMo g a_mo a_ms a_mwas a_mtried a_msaved a_mpast a_mfar a_mdrift a_mline a_mtape a_mcommands m_changes m_thrown_v2 m_errorAt m_failedAt m_answer m_isSaved m_lined m_taped m_here m_commandMany, kAr g a_ms 130 m_s_14]) H := hP
      have hD : va_D A (List.flatten [kMo g a_mo a_ms a_mwas a_mtried a_msaved a_mpast a_mfar a_mdrift a_mline a_mtape a_mcommands m_changes m_thrown_v2 m_errorAt m_failedAt m_answer m_isSaved m_lined m_taped m_here m_commandMany, kAr g a_ms 130 m_s_14]) := hD
      refine lv_iconst (v := 2) hx hb dX7_salts_27 (by decide) ?_
      refine gCi1 (gRunV (As := [.int r3, .int 2]) (rest := []) ⟨hx, hb, hml, hown, hts⟩ (ctX7_isThrown l g a_mo a_ms a_mwas a_mtried a_msaved a_mpast a_mfar a_mdrift a_mline a_mtape a_mcommands _ m_changes m_thrown_v2 m_errorAt m_failedAt m_answer m_isSaved m_lined m_taped m_here m_commandMany r3 2 hw) (cwV 2 hts gX7_salts_X7_isThrown rfl rfl rfl (by decide +kernel) ⟨Nat.le_of_ble_eq_true rfl, Nat.le_of_ble_eq_true rfl⟩) hE (gSub hP [0]) (gDSub hD [0] rfl) 0 11 rfl rfl rfl rfl rfl hl.1 rfl (lv_room (Nat.le_of_ble_eq_true rfl)) dX7_salts_28 ⟨Nat.le_of_ble_eq_true rfl, Nat.le_of_ble_eq_true rfl⟩) hP hD hS hA [0] rfl (fun _ => rfl) rfl (fun r4 m_thrown_v4 H locs hw hP hD hS => ?_)
      have hP : va_P g.1 vwCl (List.flatten [kMo g a_mo a_ms a_mwas a_mtried a_msaved a_mpast a_mfar a_mdrift a_mline a_mtape a_mcommands m_changes m_thrown_v4 m_errorAt m_failedAt m_answer m_isSaved m_lined m_taped m_here m_commandMany, kAr g a_ms 130 m_s_14]) H := hP
      have hD : va_D A (List.flatten [kMo g a_mo a_ms a_mwas a_mtried a_msaved a_mpast a_mfar a_mdrift a_mline a_mtape a_mcommands m_changes m_thrown_v4 m_errorAt m_failedAt m_answer m_isSaved m_lined m_taped m_here m_commandMany, kAr g a_ms 130 m_s_14]) := hD
      refine lv_if_ne (tgt := 62) hx hb dX7_salts_31 (by decide) (fun c_31 => ?_) (fun c_31 => ?_)
      · have hw := hw.1 c_31
        refine lv_iconst (v := 0) hx hb dX7_salts_62 (by decide) ?_
        subst hQ
        exact W.iret hx hb hr (gRi2 (c1 := m_thrown_v4) (c2 := m_s_14) (wf := _) hA0 hsz hw hP hD hS) hS.2.2 dX7_salts_63
      · have hw := hw.2 c_31
        refine lv_aload_n hx hb dX7_salts_34 rfl (lv_at hl 0 rfl) ?_
        refine lv_aload_n hx hb dX7_salts_35 rfl (lv_at hl 0 rfl) ?_
        refine va_get (D := g.1) (ci := 11) (v := .ref (a_ms 0)) (C := RX7) (T := TX7) (N := 20) hx hb hts inX7_salts_X7 hown hE.1 hP 0 rfl rfl 0 (by decide) (gW hts 1 (.fieldLink RX7 9 "SnowDispatcherModel" "s" "[I") rfl) (fun _ h9 => h9) rfl dX7_salts_36 ?_
        refine lv_iconst (v := 3) hx hb dX7_salts_39 (by decide) ?_
        have h5 := hw.1
        have hw := hw.2
        refine va_iald hx hb hE.1 hP 1 0 rfl rfl h5 dX7_salts_40 ?_
        refine lv_aload_n hx hb dX7_salts_41 rfl (lv_at hl 0 rfl) ?_
        refine lv_iload_n hx hb dX7_salts_42 rfl (lv_at hl 1 rfl) ?_
        refine lv_iconst (v := 3) hx hb dX7_salts_43 (by decide) ?_
        refine gCi0 (gRunV (As := [.int x1, .int 3]) (rest := [.int (m_s_14 (3 : Int32).toNatClampNeg), .ref (a_mo 0)]) ⟨hx, hb, hml, hown, hts⟩ (ctX7_of l g a_mo a_ms a_mwas a_mtried a_msaved a_mpast a_mfar a_mdrift a_mline a_mtape a_mcommands _ m_changes m_thrown_v4 m_errorAt m_failedAt m_answer m_isSaved m_lined m_taped m_here m_commandMany m_s_14 x1 3 hw) (cwV 2 hts gX7_salts_X7_of rfl rfl rfl (by decide +kernel) ⟨Nat.le_of_ble_eq_true rfl, Nat.le_of_ble_eq_true rfl⟩) hE (gSub hP [0, 1]) (gDSub hD [0, 1] rfl) 0 11 rfl rfl rfl rfl rfl hl.1 rfl (lv_room (Nat.le_of_ble_eq_true rfl)) dX7_salts_44 ⟨Nat.le_of_ble_eq_true rfl, Nat.le_of_ble_eq_true rfl⟩) hP hD hS hA [0, 1] rfl rfl rfl (fun r6 H locs hw hP hD hS => ?_)
        have hP : va_P g.1 vwCl (List.flatten [kMo g a_mo a_ms a_mwas a_mtried a_msaved a_mpast a_mfar a_mdrift a_mline a_mtape a_mcommands m_changes m_thrown_v4 m_errorAt m_failedAt m_answer m_isSaved m_lined m_taped m_here m_commandMany, kAr g a_ms 130 m_s_14]) H := hP
        have hD : va_D A (List.flatten [kMo g a_mo a_ms a_mwas a_mtried a_msaved a_mpast a_mfar a_mdrift a_mline a_mtape a_mcommands m_changes m_thrown_v4 m_errorAt m_failedAt m_answer m_isSaved m_lined m_taped m_here m_commandMany, kAr g a_ms 130 m_s_14]) := hD
        refine lv_icmp_ge (tgt := 54) hx hb dX7_salts_47 (by decide) (fun c_47 => ?_) (fun c_47 => ?_)
        · have hw := hw.1 c_47
          refine lv_iconst (v := 0) hx hb dX7_salts_54 (by decide) ?_
          exact J55 0 m_thrown_v4 m_s_14 _ _ _ hw hP hD hS (lv_sub hl [0, 1] rfl)
        · have hw := hw.2 c_47
          refine lv_iconst (v := 1) hx hb dX7_salts_50 (by decide) ?_
          refine lv_goto (tgt := 55) hx hb dX7_salts_51 (by decide) ?_
          exact J55 1 m_thrown_v4 m_s_14 _ _ _ hw hP hD hS (lv_sub hl [0, 1] rfl)
  refine lv_aload_n hx hb dX7_salts_0 rfl (lv_at hl 0 rfl) ?_
  refine lv_aload_n hx hb dX7_salts_1 rfl (lv_at hl 0 rfl) ?_
  refine lv_iload_n hx hb dX7_salts_2 rfl (lv_at hl 1 rfl) ?_
  refine gCi0 (gRunV (As := [.int x1]) (rest := [.ref (a_mo 0)]) ⟨hx, hb, hml, hown, hts⟩ (ctX7_isStreet l g a_mo a_ms a_mwas a_mtried a_msaved a_mpast a_mfar a_mdrift a_mline a_mtape a_mcommands _ m_changes m_thrown m_errorAt m_failedAt m_answer m_isSaved m_lined m_taped m_here m_commandMany m_s x1 hw) (cwV 1 hts gX7_salts_X7_isStreet rfl rfl rfl (by decide +kernel) ⟨Nat.le_of_ble_eq_true rfl, Nat.le_of_ble_eq_true rfl⟩) hE (gSub hP [0, 1]) (gDSub hD [0, 1] rfl) 0 11 rfl rfl rfl rfl rfl hl.1 rfl (lv_room (Nat.le_of_ble_eq_true rfl)) dX7_salts_3 ⟨Nat.le_of_ble_eq_true rfl, Nat.le_of_ble_eq_true rfl⟩) hP hD hS hA [0, 1] rfl rfl rfl (fun r1 H locs hw hP hD hS => ?_)
  have hP : va_P g.1 vwCl (List.flatten [kMo g a_mo a_ms a_mwas a_mtried a_msaved a_mpast a_mfar a_mdrift a_mline a_mtape a_mcommands m_changes m_thrown m_errorAt m_failedAt m_answer m_isSaved m_lined m_taped m_here m_commandMany, kAr g a_ms 130 m_s]) H := hP
  have hD : va_D A (List.flatten [kMo g a_mo a_ms a_mwas a_mtried a_msaved a_mpast a_mfar a_mdrift a_mline a_mtape a_mcommands m_changes m_thrown m_errorAt m_failedAt m_answer m_isSaved m_lined m_taped m_here m_commandMany, kAr g a_ms 130 m_s]) := hD
  refine lv_if_ne (tgt := 13) hx hb dX7_salts_6 (by decide) (fun c_6 => ?_) (fun c_6 => ?_)
  · have hw := hw.1 c_6
    refine lv_iconst (v := 0) hx hb dX7_salts_13 (by decide) ?_
    exact J14 0 m_thrown m_s _ _ _ hw hP hD hS (lv_sub hl [0, 1] rfl)
  · have hw := hw.2 c_6
    refine lv_iconst (v := 1) hx hb dX7_salts_9 (by decide) ?_
    refine lv_goto (tgt := 14) hx hb dX7_salts_10 (by decide) ?_
    exact J14 1 m_thrown m_s _ _ _ hw hP hD hS (lv_sub hl [0, 1] rfl)
abbrev rmX7_salt : Room := { frames := 4, cells := 0, slots := 0, locals := 167 }
set_option maxRecDepth 20000 in
theorem inX7_salt_X7 : ∀ w ∈ wsX70, w ∈ wsX7_salt := by decide +kernel
set_option maxHeartbeats 4000000 in
set_option maxRecDepth 100000 in
theorem ctX7_salt (l : Launch) (g : GG) (a_mo : Nat → Nat) (a_ms : Nat → Nat) (a_mwas : Nat → Nat) (a_mtried : Nat → Nat) (a_msaved : Nat → Nat) (a_mpast : Nat → Nat) (a_mfar : Nat → Nat) (a_mdrift : Nat → Nat) (a_mline : Nat → Nat) (a_mtape : Nat → Nat) (a_mcommands : Nat → Nat) (sz : Nat) (m_changes : Int32) (m_thrown : Int32) (m_errorAt : Int32) (m_failedAt : Int32) (m_answer : Int32) (m_isSaved : Int32) (m_lined : Int32) (m_taped : Int32) (m_here : Int32) (m_commandMany : Int32) (m_s : Nat → Int32) (m_was : Nat → Int32) (m_past : Nat → Int32) (x1 : Int32) {post : Int32 → Int32 → Int32 → (Nat → Int32) → (Nat → Int32) → (Nat → Int32) → Prop} (hw : wpX7_salt x1 m_changes m_thrown m_s m_was m_past post) :
    Met l yX7_salt wsX7_salt rmX7_salt (gPc g sz (List.flatten [kMo g a_mo a_ms a_mwas a_mtried a_msaved a_mpast a_mfar a_mdrift a_mline a_mtape a_mcommands m_changes m_thrown m_errorAt m_failedAt m_answer m_isSaved m_lined m_taped m_here m_commandMany, kAr g a_ms 130 m_s, kAr g a_mwas 130 m_was, kAr g a_mpast 1040 m_past]) [.ref (a_mo 0), .int x1]) (gQi5 post (fun u1 u2 u3 u4 u5 => gB g (List.flatten [kMo g a_mo a_ms a_mwas a_mtried a_msaved a_mpast a_mfar a_mdrift a_mline a_mtape a_mcommands m_changes m_thrown m_errorAt m_failedAt m_answer m_isSaved m_lined m_taped m_here m_commandMany, kAr g a_ms 130 m_s, kAr g a_mwas 130 m_was, kAr g a_mpast 1040 m_past]) sz (List.flatten [kMo g a_mo a_ms a_mwas a_mtried a_msaved a_mpast a_mfar a_mdrift a_mline a_mtape a_mcommands u1 u2 m_errorAt m_failedAt m_answer m_isSaved m_lined m_taped m_here m_commandMany, kAr g a_ms 130 u3, kAr g a_mwas 130 u4, kAr g a_mpast 1040 u5])) (va_A (List.flatten [kMo g a_mo a_ms a_mwas a_mtried a_msaved a_mpast a_mfar a_mdrift a_mline a_mtape a_mcommands m_changes m_thrown m_errorAt m_failedAt m_answer m_isSaved m_lined m_taped m_here m_commandMany, kAr g a_ms 130 m_s, kAr g a_mwas 130 m_was, kAr g a_mpast 1040 m_past]) sz)) 0 0 (va_A (List.flatten [kMo g a_mo a_ms a_mwas a_mtried a_msaved a_mpast a_mfar a_mdrift a_mline a_mtape a_mcommands m_changes m_thrown m_errorAt m_failedAt m_answer m_isSaved m_lined m_taped m_here m_commandMany, kAr g a_ms 130 m_s, kAr g a_mwas 130 m_was, kAr g a_mpast 1040 m_past]) sz) := by
  refine gOf (cc := cX7_salt) (maxL := 2) (ret := (some .int)) (by decide) rfl (Nat.le_of_ble_eq_true rfl) ?_
  intro p e s m below meth c ls Q A hQ hx hb hr hml hts hown hlocks hE hA0 hsz hP hD hA hS hl
  have hl : lv_has ls 2 [(0, .ref (a_mo 0)), (1, .int x1)] := hl
  refine lv_aload_n hx hb dX7_salt_0 rfl (lv_at hl 0 rfl) ?_
  refine gCv2 (gRunV (As := []) (rest := []) ⟨hx, hb, hml, hown, hts⟩ (ctX7_keeps l g a_mo a_ms a_mwas a_mtried a_msaved a_mpast a_mfar a_mdrift a_mline a_mtape a_mcommands _ m_changes m_thrown m_errorAt m_failedAt m_answer m_isSaved m_lined m_taped m_here m_commandMany m_s m_was hw) (cwV 0 hts gX7_salt_X7_keeps rfl rfl rfl (by decide +kernel) ⟨Nat.le_of_ble_eq_true rfl, Nat.le_of_ble_eq_true rfl⟩) hE (gSub hP [0, 1, 2]) (gDSub hD [0, 1, 2] rfl) 0 11 rfl rfl rfl rfl rfl hl.1 rfl (lv_room (Nat.le_of_ble_eq_true rfl)) dX7_salt_1 ⟨Nat.le_of_ble_eq_true rfl, Nat.le_of_ble_eq_true rfl⟩) hP hD hS hA [0, 1, 2] rfl (fun _ _ => rfl) rfl (fun m_thrown_v1 m_was_v1 H locs hw hP hD hS => ?_)
  have hP : va_P g.1 vwCl (List.flatten [kMo g a_mo a_ms a_mwas a_mtried a_msaved a_mpast a_mfar a_mdrift a_mline a_mtape a_mcommands m_changes m_thrown_v1 m_errorAt m_failedAt m_answer m_isSaved m_lined m_taped m_here m_commandMany, kAr g a_ms 130 m_s, kAr g a_mwas 130 m_was_v1, kAr g a_mpast 1040 m_past]) H := hP
  have hD : va_D A (List.flatten [kMo g a_mo a_ms a_mwas a_mtried a_msaved a_mpast a_mfar a_mdrift a_mline a_mtape a_mcommands m_changes m_thrown_v1 m_errorAt m_failedAt m_answer m_isSaved m_lined m_taped m_here m_commandMany, kAr g a_ms 130 m_s, kAr g a_mwas 130 m_was_v1, kAr g a_mpast 1040 m_past]) := hD
  refine lv_aload_n hx hb dX7_salt_4 rfl (lv_at hl 0 rfl) ?_
  refine lv_aload_n hx hb dX7_salt_5 rfl (lv_at hl 0 rfl) ?_
  refine lv_iload_n hx hb dX7_salt_6 rfl (lv_at hl 1 rfl) ?_
  refine gCi2 (gRunV (As := [.int x1]) (rest := [.ref (a_mo 0)]) ⟨hx, hb, hml, hown, hts⟩ (ctX7_salts l g a_mo a_ms a_mwas a_mtried a_msaved a_mpast a_mfar a_mdrift a_mline a_mtape a_mcommands _ m_changes m_thrown_v1 m_errorAt m_failedAt m_answer m_isSaved m_lined m_taped m_here m_commandMany m_s x1 hw) (cwV 1 hts gX7_salt_X7_salts rfl rfl rfl (by decide +kernel) ⟨Nat.le_of_ble_eq_true rfl, Nat.le_of_ble_eq_true rfl⟩) hE (gSub hP [0, 1]) (gDSub hD [0, 1] rfl) 0 11 rfl rfl rfl rfl rfl hl.1 rfl (lv_room (Nat.le_of_ble_eq_true rfl)) dX7_salt_7 ⟨Nat.le_of_ble_eq_true rfl, Nat.le_of_ble_eq_true rfl⟩) hP hD hS hA [0, 1] rfl (fun _ _ => rfl) rfl (fun r2 m_thrown_v2 m_s_v2 H locs hw hP hD hS => ?_)
  have hP : va_P g.1 vwCl (List.flatten [kMo g a_mo a_ms a_mwas a_mtried a_msaved a_mpast a_mfar a_mdrift a_mline a_mtape a_mcommands m_changes m_thrown_v2 m_errorAt m_failedAt m_answer m_isSaved m_lined m_taped m_here m_commandMany, kAr g a_ms 130 m_s_v2, kAr g a_mwas 130 m_was_v1, kAr g a_mpast 1040 m_past]) H := hP
  have hD : va_D A (List.flatten [kMo g a_mo a_ms a_mwas a_mtried a_msaved a_mpast a_mfar a_mdrift a_mline a_mtape a_mcommands m_changes m_thrown_v2 m_errorAt m_failedAt m_answer m_isSaved m_lined m_taped m_here m_commandMany, kAr g a_ms 130 m_s_v2, kAr g a_mwas 130 m_was_v1, kAr g a_mpast 1040 m_past]) := hD
  refine gCi2 (gRunV (As := [.int r2]) (rest := []) ⟨hx, hb, hml, hown, hts⟩ (ctX7_ends l g a_mo a_ms a_mwas a_mtried a_msaved a_mpast a_mfar a_mdrift a_mline a_mtape a_mcommands _ m_changes m_thrown_v2 m_errorAt m_failedAt m_answer m_isSaved m_lined m_taped m_here m_commandMany m_was_v1 m_past r2 hw) (cwV 1 hts gX7_salt_X7_ends rfl rfl rfl (by decide +kernel) ⟨Nat.le_of_ble_eq_true rfl, Nat.le_of_ble_eq_true rfl⟩) hE (gSub hP [0, 2, 3]) (gDSub hD [0, 2, 3] rfl) 0 11 rfl rfl rfl rfl rfl hl.1 rfl (lv_room (Nat.le_of_ble_eq_true rfl)) dX7_salt_10 ⟨Nat.le_of_ble_eq_true rfl, Nat.le_of_ble_eq_true rfl⟩) hP hD hS hA [0, 2, 3] rfl (fun _ _ => rfl) rfl (fun r3 m_changes_v3 m_past_v3 H locs hw hP hD hS => ?_)
  have hP : va_P g.1 vwCl (List.flatten [kMo g a_mo a_ms a_mwas a_mtried a_msaved a_mpast a_mfar a_mdrift a_mline a_mtape a_mcommands m_changes_v3 m_thrown_v2 m_errorAt m_failedAt m_answer m_isSaved m_lined m_taped m_here m_commandMany, kAr g a_ms 130 m_s_v2, kAr g a_mwas 130 m_was_v1, kAr g a_mpast 1040 m_past_v3]) H := hP
  have hD : va_D A (List.flatten [kMo g a_mo a_ms a_mwas a_mtried a_msaved a_mpast a_mfar a_mdrift a_mline a_mtape a_mcommands m_changes_v3 m_thrown_v2 m_errorAt m_failedAt m_answer m_isSaved m_lined m_taped m_here m_commandMany, kAr g a_ms 130 m_s_v2, kAr g a_mwas 130 m_was_v1, kAr g a_mpast 1040 m_past_v3]) := hD
  subst hQ
  exact W.iret hx hb hr (gRi5 (c1 := m_changes_v3) (c2 := m_thrown_v2) (c3 := m_s_v2) (c4 := m_was_v1) (c5 := m_past_v3) (wf := _) hA0 hsz hw hP hD hS) hS.2.2 dX7_salt_13
abbrev rmX7_loads : Room := { frames := 2, cells := 0, slots := 0, locals := 123 }
set_option maxRecDepth 20000 in
theorem inX7_loads_X7 : ∀ w ∈ wsX70, w ∈ wsX7_loads := by decide +kernel
set_option maxHeartbeats 4000000 in
set_option maxRecDepth 100000 in
theorem ctX7_loads (l : Launch) (g : GG) (a_mo : Nat → Nat) (a_ms : Nat → Nat) (a_mwas : Nat → Nat) (a_mtried : Nat → Nat) (a_msaved : Nat → Nat) (a_mpast : Nat → Nat) (a_mfar : Nat → Nat) (a_mdrift : Nat → Nat) (a_mline : Nat → Nat) (a_mtape : Nat → Nat) (a_mcommands : Nat → Nat) (sz : Nat) (m_changes : Int32) (m_thrown : Int32) (m_errorAt : Int32) (m_failedAt : Int32) (m_answer : Int32) (m_isSaved : Int32) (m_lined : Int32) (m_taped : Int32) (m_here : Int32) (m_commandMany : Int32) (m_s : Nat → Int32) (x1 : Int32) {post : Int32 → Int32 → (Nat → Int32) → Prop} (hw : wpX7_loads x1 m_thrown m_s post) :
    Met l yX7_loads wsX7_loads rmX7_loads (gPc g sz (List.flatten [kMo g a_mo a_ms a_mwas a_mtried a_msaved a_mpast a_mfar a_mdrift a_mline a_mtape a_mcommands m_changes m_thrown m_errorAt m_failedAt m_answer m_isSaved m_lined m_taped m_here m_commandMany, kAr g a_ms 130 m_s]) [.ref (a_mo 0), .int x1]) (gQi2 post (fun u1 u2 => gB g (List.flatten [kMo g a_mo a_ms a_mwas a_mtried a_msaved a_mpast a_mfar a_mdrift a_mline a_mtape a_mcommands m_changes m_thrown m_errorAt m_failedAt m_answer m_isSaved m_lined m_taped m_here m_commandMany, kAr g a_ms 130 m_s]) sz (List.flatten [kMo g a_mo a_ms a_mwas a_mtried a_msaved a_mpast a_mfar a_mdrift a_mline a_mtape a_mcommands m_changes u1 m_errorAt m_failedAt m_answer m_isSaved m_lined m_taped m_here m_commandMany, kAr g a_ms 130 u2])) (va_A (List.flatten [kMo g a_mo a_ms a_mwas a_mtried a_msaved a_mpast a_mfar a_mdrift a_mline a_mtape a_mcommands m_changes m_thrown m_errorAt m_failedAt m_answer m_isSaved m_lined m_taped m_here m_commandMany, kAr g a_ms 130 m_s]) sz)) 0 0 (va_A (List.flatten [kMo g a_mo a_ms a_mwas a_mtried a_msaved a_mpast a_mfar a_mdrift a_mline a_mtape a_mcommands m_changes m_thrown m_errorAt m_failedAt m_answer m_isSaved m_lined m_taped m_here m_commandMany, kAr g a_ms 130 m_s]) sz) := by
  refine gOf (cc := cX7_loads) (maxL := 2) (ret := (some .int)) (by decide) rfl (Nat.le_of_ble_eq_true rfl) ?_
  intro p e s m below meth c ls Q A hQ hx hb hr hml hts hown hlocks hE hA0 hsz hP hD hA hS hl
  have hl : lv_has ls 2 [(0, .ref (a_mo 0)), (1, .int x1)] := hl
  have J44 : ∀ (z1_44 : Int32) (m_thrown_44 : Int32) (m_s_44 : Nat → Int32) (H : Heap) (locs : List Loc) (ls : Array Slot), wpX7_loads_L44 x1 post z1_44 m_thrown_44 m_s_44 → va_P g.1 vwCl (List.flatten [kMo g a_mo a_ms a_mwas a_mtried a_msaved a_mpast a_mfar a_mdrift a_mline a_mtape a_mcommands m_changes m_thrown_44 m_errorAt m_failedAt m_answer m_isSaved m_lined m_taped m_here m_commandMany, kAr g a_ms 130 m_s_44]) H → va_D A (List.flatten [kMo g a_mo a_ms a_mwas a_mtried a_msaved a_mpast a_mfar a_mdrift a_mline a_mtape a_mcommands m_changes m_thrown_44 m_errorAt m_failedAt m_answer m_isSaved m_lined m_taped m_here m_commandMany, kAr g a_ms 130 m_s_44]) → va_S A s.heap H locs → lv_has ls 2 [(0, .ref (a_mo 0)), (1, .int x1)] → W p l e rmX7_loads s m (([.ref (a_mo 0), .int x1] : List Value).toArray) below meth c H locs 0 0 Q (F0 m 44 ls [.int z1_44, .ref (a_mo 0)]) := by
    intro z1_44 m_thrown_44 m_s_44 H locs ls hw hP hD hS hl
    refine lv_iconst (v := 2) hx hb dX7_loads_44 (by decide) ?_
    refine gCi1 (gRunV (As := [.int z1_44, .int 2]) (rest := []) ⟨hx, hb, hml, hown, hts⟩ (ctX7_isThrown l g a_mo a_ms a_mwas a_mtried a_msaved a_mpast a_mfar a_mdrift a_mline a_mtape a_mcommands _ m_changes m_thrown_44 m_errorAt m_failedAt m_answer m_isSaved m_lined m_taped m_here m_commandMany z1_44 2 hw) (cwV 2 hts gX7_loads_X7_isThrown rfl rfl rfl (by decide +kernel) ⟨Nat.le_of_ble_eq_true rfl, Nat.le_of_ble_eq_true rfl⟩) hE (gSub hP [0]) (gDSub hD [0] rfl) 0 11 rfl rfl rfl rfl rfl hl.1 rfl (lv_room (Nat.le_of_ble_eq_true rfl)) dX7_loads_45 ⟨Nat.le_of_ble_eq_true rfl, Nat.le_of_ble_eq_true rfl⟩) hP hD hS hA [0] rfl (fun _ => rfl) rfl (fun r4 m_thrown_v4 H locs hw hP hD hS => ?_)
    have hP : va_P g.1 vwCl (List.flatten [kMo g a_mo a_ms a_mwas a_mtried a_msaved a_mpast a_mfar a_mdrift a_mline a_mtape a_mcommands m_changes m_thrown_v4 m_errorAt m_failedAt m_answer m_isSaved m_lined m_taped m_here m_commandMany, kAr g a_ms 130 m_s_44]) H := hP
    have hD : va_D A (List.flatten [kMo g a_mo a_ms a_mwas a_mtried a_msaved a_mpast a_mfar a_mdrift a_mline a_mtape a_mcommands m_changes m_thrown_v4 m_errorAt m_failedAt m_answer m_isSaved m_lined m_taped m_here m_commandMany, kAr g a_ms 130 m_s_44]) := hD
    refine lv_if_eq (tgt := 53) hx hb dX7_loads_48 (by decide) (fun c_48 => ?_) (fun c_48 => ?_)
    · have hw := hw.1 c_48
      refine lv_aload_n hx hb dX7_loads_53 rfl (lv_at hl 0 rfl) ?_
      refine va_get (D := g.1) (ci := 11) (v := .ref (a_ms 0)) (C := RX7) (T := TX7) (N := 20) hx hb hts inX7_loads_X7 hown hE.1 hP 0 rfl rfl 0 (by decide) (gW hts 1 (.fieldLink RX7 9 "SnowDispatcherModel" "s" "[I") rfl) (fun _ h9 => h9) rfl dX7_loads_54 ?_
      refine lv_iconst (v := 3) hx hb dX7_loads_57 (by decide) ?_
      refine lv_dup2_11 hx hb dX7_loads_58 rfl rfl ?_
      have h5 := hw.1
      have hw := hw.2
      refine va_iald hx hb hE.1 hP 1 0 rfl rfl h5 dX7_loads_59 ?_
      refine lv_iload_n hx hb dX7_loads_60 rfl (lv_at hl 1 rfl) ?_
      refine lv_iadd hx hb dX7_loads_61 ?_
      have h6 := hw.1
      have hw := hw.2
      refine va_iast hx hb hE.1 hP hD hS 1 0 rfl rfl h6 dX7_loads_62 (fun H locs hP hD hS => ?_)
      have hP : va_P g.1 vwCl (List.flatten [kMo g a_mo a_ms a_mwas a_mtried a_msaved a_mpast a_mfar a_mdrift a_mline a_mtape a_mcommands m_changes m_thrown_v4 m_errorAt m_failedAt m_answer m_isSaved m_lined m_taped m_here m_commandMany, kAr g a_ms 130 (upd m_s_44 (3 : Int32).toNatClampNeg ((m_s_44 (3 : Int32).toNatClampNeg) + x1))]) H := hP
      have hD : va_D A (List.flatten [kMo g a_mo a_ms a_mwas a_mtried a_msaved a_mpast a_mfar a_mdrift a_mline a_mtape a_mcommands m_changes m_thrown_v4 m_errorAt m_failedAt m_answer m_isSaved m_lined m_taped m_here m_commandMany, kAr g a_ms 130 (upd m_s_44 (3 : Int32).toNatClampNeg ((m_s_44 (3 : Int32).toNatClampNeg) + x1))]) := hD
      refine lv_aload_n hx hb dX7_loads_63 rfl (lv_at hl 0 rfl) ?_
      refine va_get (D := g.1) (ci := 11) (v := .ref (a_ms 0)) (C := RX7) (T := TX7) (N := 20) hx hb hts inX7_loads_X7 hown hE.1 hP 0 rfl rfl 0 (by decide) (gW hts 1 (.fieldLink RX7 9 "SnowDispatcherModel" "s" "[I") rfl) (fun _ h9 => h9) rfl dX7_loads_64 ?_
      refine lv_iconst (v := 3) hx hb dX7_loads_67 (by decide) ?_
      have h7 := hw.1
      have hw := hw.2
      refine va_iald hx hb hE.1 hP 1 0 rfl rfl h7 dX7_loads_68 ?_
      subst hQ
      exact W.iret hx hb hr (gRi2 (c1 := m_thrown_v4) (c2 := (upd m_s_44 (3 : Int32).toNatClampNeg ((m_s_44 (3 : Int32).toNatClampNeg) + x1))) (wf := _) hA0 hsz hw hP hD hS) hS.2.2 dX7_loads_69
    · have hw := hw.2 c_48
      refine lv_iconst (v := 0) hx hb dX7_loads_51 (by decide) ?_
      subst hQ
      exact W.iret hx hb hr (gRi2 (c1 := m_thrown_v4) (c2 := m_s_44) (wf := _) hA0 hsz hw hP hD hS) hS.2.2 dX7_loads_52
  have J17 : ∀ (z1_17 : Int32) (m_thrown_17 : Int32) (m_s_17 : Nat → Int32) (H : Heap) (locs : List Loc) (ls : Array Slot), wpX7_loads_L17 x1 post z1_17 m_thrown_17 m_s_17 → va_P g.1 vwCl (List.flatten [kMo g a_mo a_ms a_mwas a_mtried a_msaved a_mpast a_mfar a_mdrift a_mline a_mtape a_mcommands m_changes m_thrown_17 m_errorAt m_failedAt m_answer m_isSaved m_lined m_taped m_here m_commandMany, kAr g a_ms 130 m_s_17]) H → va_D A (List.flatten [kMo g a_mo a_ms a_mwas a_mtried a_msaved a_mpast a_mfar a_mdrift a_mline a_mtape a_mcommands m_changes m_thrown_17 m_errorAt m_failedAt m_answer m_isSaved m_lined m_taped m_here m_commandMany, kAr g a_ms 130 m_s_17]) → va_S A s.heap H locs → lv_has ls 2 [(0, .ref (a_mo 0)), (1, .int x1)] → W p l e rmX7_loads s m (([.ref (a_mo 0), .int x1] : List Value).toArray) below meth c H locs 0 0 Q (F0 m 17 ls [.int z1_17, .ref (a_mo 0)]) := by
    intro z1_17 m_thrown_17 m_s_17 H locs ls hw hP hD hS hl
    refine lv_iconst (v := 1) hx hb dX7_loads_17 (by decide) ?_
    refine gCi1 (gRunV (As := [.int z1_17, .int 1]) (rest := []) ⟨hx, hb, hml, hown, hts⟩ (ctX7_isThrown l g a_mo a_ms a_mwas a_mtried a_msaved a_mpast a_mfar a_mdrift a_mline a_mtape a_mcommands _ m_changes m_thrown_17 m_errorAt m_failedAt m_answer m_isSaved m_lined m_taped m_here m_commandMany z1_17 1 hw) (cwV 2 hts gX7_loads_X7_isThrown rfl rfl rfl (by decide +kernel) ⟨Nat.le_of_ble_eq_true rfl, Nat.le_of_ble_eq_true rfl⟩) hE (gSub hP [0]) (gDSub hD [0] rfl) 0 11 rfl rfl rfl rfl rfl hl.1 rfl (lv_room (Nat.le_of_ble_eq_true rfl)) dX7_loads_18 ⟨Nat.le_of_ble_eq_true rfl, Nat.le_of_ble_eq_true rfl⟩) hP hD hS hA [0] rfl (fun _ => rfl) rfl (fun r2 m_thrown_v2 H locs hw hP hD hS => ?_)
    have hP : va_P g.1 vwCl (List.flatten [kMo g a_mo a_ms a_mwas a_mtried a_msaved a_mpast a_mfar a_mdrift a_mline a_mtape a_mcommands m_changes m_thrown_v2 m_errorAt m_failedAt m_answer m_isSaved m_lined m_taped m_here m_commandMany, kAr g a_ms 130 m_s_17]) H := hP
    have hD : va_D A (List.flatten [kMo g a_mo a_ms a_mwas a_mtried a_msaved a_mpast a_mfar a_mdrift a_mline a_mtape a_mcommands m_changes m_thrown_v2 m_errorAt m_failedAt m_answer m_isSaved m_lined m_taped m_here m_commandMany, kAr g a_ms 130 m_s_17]) := hD
    refine lv_if_ne (tgt := 51) hx hb dX7_loads_21 (by decide) (fun c_21 => ?_) (fun c_21 => ?_)
    · have hw := hw.1 c_21
      refine lv_iconst (v := 0) hx hb dX7_loads_51 (by decide) ?_
      subst hQ
      exact W.iret hx hb hr (gRi2 (c1 := m_thrown_v2) (c2 := m_s_17) (wf := _) hA0 hsz hw hP hD hS) hS.2.2 dX7_loads_52
    · have hw := hw.2 c_21
      refine lv_aload_n hx hb dX7_loads_24 rfl (lv_at hl 0 rfl) ?_
      refine lv_aload_n hx hb dX7_loads_25 rfl (lv_at hl 0 rfl) ?_
      refine va_get (D := g.1) (ci := 11) (v := .ref (a_ms 0)) (C := RX7) (T := TX7) (N := 20) hx hb hts inX7_loads_X7 hown hE.1 hP 0 rfl rfl 0 (by decide) (gW hts 1 (.fieldLink RX7 9 "SnowDispatcherModel" "s" "[I") rfl) (fun _ h9 => h9) rfl dX7_loads_26 ?_
      refine lv_iconst (v := 3) hx hb dX7_loads_29 (by decide) ?_
      have h3 := hw.1
      have hw := hw.2
      refine va_iald hx hb hE.1 hP 1 0 rfl rfl h3 dX7_loads_30 ?_
      refine lv_iload_n hx hb dX7_loads_31 rfl (lv_at hl 1 rfl) ?_
      refine lv_iadd hx hb dX7_loads_32 ?_
      refine lv_sipush (v := 500) hx hb dX7_loads_33 (by decide) ?_
      refine lv_icmp_le (tgt := 43) hx hb dX7_loads_36 (by decide) (fun c_36 => ?_) (fun c_36 => ?_)
      · have hw := hw.1 c_36
        refine lv_iconst (v := 0) hx hb dX7_loads_43 (by decide) ?_
        exact J44 0 m_thrown_v2 m_s_17 _ _ _ hw hP hD hS (lv_sub hl [0, 1] rfl)
      · have hw := hw.2 c_36
        refine lv_iconst (v := 1) hx hb dX7_loads_39 (by decide) ?_
        refine lv_goto (tgt := 44) hx hb dX7_loads_40 (by decide) ?_
        exact J44 1 m_thrown_v2 m_s_17 _ _ _ hw hP hD hS (lv_sub hl [0, 1] rfl)
  refine lv_aload_n hx hb dX7_loads_0 rfl (lv_at hl 0 rfl) ?_
  refine lv_iload_n hx hb dX7_loads_1 rfl (lv_at hl 1 rfl) ?_
  refine lv_iconst (v := 1) hx hb dX7_loads_2 (by decide) ?_
  refine lv_sipush (v := 200) hx hb dX7_loads_3 (by decide) ?_
  refine gCi0 (gRunS (As := [.int x1, .int 1, .int 200]) (rest := [.ref (a_mo 0)]) ⟨hx, hb, hml, hown, hts⟩ (ctX7_isIn l g _ x1 1 200 hw) (va_cwS 3 hts gX7_loads_X7_isIn rfl rfl rfl (by decide +kernel) ⟨Nat.le_of_ble_eq_true rfl, Nat.le_of_ble_eq_true rfl⟩) hE (gSub hP []) (gDSub hD [] rfl) rfl rfl hl.1 rfl (lv_room (Nat.le_of_ble_eq_true rfl)) dX7_loads_6 ⟨Nat.le_of_ble_eq_true rfl, Nat.le_of_ble_eq_true rfl⟩) hP hD hS hA [] rfl rfl rfl (fun r1 H locs hw hP hD hS => ?_)
  have hP : va_P g.1 vwCl (List.flatten [kMo g a_mo a_ms a_mwas a_mtried a_msaved a_mpast a_mfar a_mdrift a_mline a_mtape a_mcommands m_changes m_thrown m_errorAt m_failedAt m_answer m_isSaved m_lined m_taped m_here m_commandMany, kAr g a_ms 130 m_s]) H := hP
  have hD : va_D A (List.flatten [kMo g a_mo a_ms a_mwas a_mtried a_msaved a_mpast a_mfar a_mdrift a_mline a_mtape a_mcommands m_changes m_thrown m_errorAt m_failedAt m_answer m_isSaved m_lined m_taped m_here m_commandMany, kAr g a_ms 130 m_s]) := hD
  refine lv_if_ne (tgt := 16) hx hb dX7_loads_9 (by decide) (fun c_9 => ?_) (fun c_9 => ?_)
  · have hw := hw.1 c_9
    refine lv_iconst (v := 0) hx hb dX7_loads_16 (by decide) ?_
    exact J17 0 m_thrown m_s _ _ _ hw hP hD hS (lv_sub hl [0, 1] rfl)
  · have hw := hw.2 c_9
    refine lv_iconst (v := 1) hx hb dX7_loads_12 (by decide) ?_
    refine lv_goto (tgt := 17) hx hb dX7_loads_13 (by decide) ?_
    exact J17 1 m_thrown m_s _ _ _ hw hP hD hS (lv_sub hl [0, 1] rfl)
abbrev rmX7_loadSalt : Room := { frames := 3, cells := 0, slots := 0, locals := 148 }
set_option maxRecDepth 20000 in
theorem inX7_loadSalt_X7 : ∀ w ∈ wsX70, w ∈ wsX7_loadSalt := by decide +kernel
set_option maxHeartbeats 4000000 in
set_option maxRecDepth 100000 in
theorem ctX7_loadSalt (l : Launch) (g : GG) (a_mo : Nat → Nat) (a_ms : Nat → Nat) (a_mwas : Nat → Nat) (a_mtried : Nat → Nat) (a_msaved : Nat → Nat) (a_mpast : Nat → Nat) (a_mfar : Nat → Nat) (a_mdrift : Nat → Nat) (a_mline : Nat → Nat) (a_mtape : Nat → Nat) (a_mcommands : Nat → Nat) (sz : Nat) (m_changes : Int32) (m_thrown : Int32) (m_errorAt : Int32) (m_failedAt : Int32) (m_answer : Int32) (m_isSaved : Int32) (m_lined : Int32) (m_taped : Int32) (m_here : Int32) (m_commandMany : Int32) (m_s : Nat → Int32) (m_was : Nat → Int32) (m_past : Nat → Int32) (x1 : Int32) {post : Int32 → Int32 → Int32 → (Nat → Int32) → (Nat → Int32) → (Nat → Int32) → Prop} (hw : wpX7_loadSalt x1 m_changes m_thrown m_s m_was m_past post) :
    Met l yX7_loadSalt wsX7_loadSalt rmX7_loadSalt (gPc g sz (List.flatten [kMo g a_mo a_ms a_mwas a_mtried a_msaved a_mpast a_mfar a_mdrift a_mline a_mtape a_mcommands m_changes m_thrown m_errorAt m_failedAt m_answer m_isSaved m_lined m_taped m_here m_commandMany, kAr g a_ms 130 m_s, kAr g a_mwas 130 m_was, kAr g a_mpast 1040 m_past]) [.ref (a_mo 0), .int x1]) (gQi5 post (fun u1 u2 u3 u4 u5 => gB g (List.flatten [kMo g a_mo a_ms a_mwas a_mtried a_msaved a_mpast a_mfar a_mdrift a_mline a_mtape a_mcommands m_changes m_thrown m_errorAt m_failedAt m_answer m_isSaved m_lined m_taped m_here m_commandMany, kAr g a_ms 130 m_s, kAr g a_mwas 130 m_was, kAr g a_mpast 1040 m_past]) sz (List.flatten [kMo g a_mo a_ms a_mwas a_mtried a_msaved a_mpast a_mfar a_mdrift a_mline a_mtape a_mcommands u1 u2 m_errorAt m_failedAt m_answer m_isSaved m_lined m_taped m_here m_commandMany, kAr g a_ms 130 u3, kAr g a_mwas 130 u4, kAr g a_mpast 1040 u5])) (va_A (List.flatten [kMo g a_mo a_ms a_mwas a_mtried a_msaved a_mpast a_mfar a_mdrift a_mline a_mtape a_mcommands m_changes m_thrown m_errorAt m_failedAt m_answer m_isSaved m_lined m_taped m_here m_commandMany, kAr g a_ms 130 m_s, kAr g a_mwas 130 m_was, kAr g a_mpast 1040 m_past]) sz)) 0 0 (va_A (List.flatten [kMo g a_mo a_ms a_mwas a_mtried a_msaved a_mpast a_mfar a_mdrift a_mline a_mtape a_mcommands m_changes m_thrown m_errorAt m_failedAt m_answer m_isSaved m_lined m_taped m_here m_commandMany, kAr g a_ms 130 m_s, kAr g a_mwas 130 m_was, kAr g a_mpast 1040 m_past]) sz) := by
  refine gOf (cc := cX7_loadSalt) (maxL := 2) (ret := (some .int)) (by decide) rfl (Nat.le_of_ble_eq_true rfl) ?_
  intro p e s m below meth c ls Q A hQ hx hb hr hml hts hown hlocks hE hA0 hsz hP hD hA hS hl
  have hl : lv_has ls 2 [(0, .ref (a_mo 0)), (1, .int x1)] := hl
  refine lv_aload_n hx hb dX7_loadSalt_0 rfl (lv_at hl 0 rfl) ?_
  refine gCv2 (gRunV (As := []) (rest := []) ⟨hx, hb, hml, hown, hts⟩ (ctX7_keeps l g a_mo a_ms a_mwas a_mtried a_msaved a_mpast a_mfar a_mdrift a_mline a_mtape a_mcommands _ m_changes m_thrown m_errorAt m_failedAt m_answer m_isSaved m_lined m_taped m_here m_commandMany m_s m_was hw) (cwV 0 hts gX7_loadSalt_X7_keeps rfl rfl rfl (by decide +kernel) ⟨Nat.le_of_ble_eq_true rfl, Nat.le_of_ble_eq_true rfl⟩) hE (gSub hP [0, 1, 2]) (gDSub hD [0, 1, 2] rfl) 0 11 rfl rfl rfl rfl rfl hl.1 rfl (lv_room (Nat.le_of_ble_eq_true rfl)) dX7_loadSalt_1 ⟨Nat.le_of_ble_eq_true rfl, Nat.le_of_ble_eq_true rfl⟩) hP hD hS hA [0, 1, 2] rfl (fun _ _ => rfl) rfl (fun m_thrown_v1 m_was_v1 H locs hw hP hD hS => ?_)
  have hP : va_P g.1 vwCl (List.flatten [kMo g a_mo a_ms a_mwas a_mtried a_msaved a_mpast a_mfar a_mdrift a_mline a_mtape a_mcommands m_changes m_thrown_v1 m_errorAt m_failedAt m_answer m_isSaved m_lined m_taped m_here m_commandMany, kAr g a_ms 130 m_s, kAr g a_mwas 130 m_was_v1, kAr g a_mpast 1040 m_past]) H := hP
  have hD : va_D A (List.flatten [kMo g a_mo a_ms a_mwas a_mtried a_msaved a_mpast a_mfar a_mdrift a_mline a_mtape a_mcommands m_changes m_thrown_v1 m_errorAt m_failedAt m_answer m_isSaved m_lined m_taped m_here m_commandMany, kAr g a_ms 130 m_s, kAr g a_mwas 130 m_was_v1, kAr g a_mpast 1040 m_past]) := hD
  refine lv_aload_n hx hb dX7_loadSalt_4 rfl (lv_at hl 0 rfl) ?_
  refine lv_aload_n hx hb dX7_loadSalt_5 rfl (lv_at hl 0 rfl) ?_
  refine lv_iload_n hx hb dX7_loadSalt_6 rfl (lv_at hl 1 rfl) ?_
  refine gCi2 (gRunV (As := [.int x1]) (rest := [.ref (a_mo 0)]) ⟨hx, hb, hml, hown, hts⟩ (ctX7_loads l g a_mo a_ms a_mwas a_mtried a_msaved a_mpast a_mfar a_mdrift a_mline a_mtape a_mcommands _ m_changes m_thrown_v1 m_errorAt m_failedAt m_answer m_isSaved m_lined m_taped m_here m_commandMany m_s x1 hw) (cwV 1 hts gX7_loadSalt_X7_loads rfl rfl rfl (by decide +kernel) ⟨Nat.le_of_ble_eq_true rfl, Nat.le_of_ble_eq_true rfl⟩) hE (gSub hP [0, 1]) (gDSub hD [0, 1] rfl) 0 11 rfl rfl rfl rfl rfl hl.1 rfl (lv_room (Nat.le_of_ble_eq_true rfl)) dX7_loadSalt_7 ⟨Nat.le_of_ble_eq_true rfl, Nat.le_of_ble_eq_true rfl⟩) hP hD hS hA [0, 1] rfl (fun _ _ => rfl) rfl (fun r2 m_thrown_v2 m_s_v2 H locs hw hP hD hS => ?_)
  have hP : va_P g.1 vwCl (List.flatten [kMo g a_mo a_ms a_mwas a_mtried a_msaved a_mpast a_mfar a_mdrift a_mline a_mtape a_mcommands m_changes m_thrown_v2 m_errorAt m_failedAt m_answer m_isSaved m_lined m_taped m_here m_commandMany, kAr g a_ms 130 m_s_v2, kAr g a_mwas 130 m_was_v1, kAr g a_mpast 1040 m_past]) H := hP
  have hD : va_D A (List.flatten [kMo g a_mo a_ms a_mwas a_mtried a_msaved a_mpast a_mfar a_mdrift a_mline a_mtape a_mcommands m_changes m_thrown_v2 m_errorAt m_failedAt m_answer m_isSaved m_lined m_taped m_here m_commandMany, kAr g a_ms 130 m_s_v2, kAr g a_mwas 130 m_was_v1, kAr g a_mpast 1040 m_past]) := hD
  refine gCi2 (gRunV (As := [.int r2]) (rest := []) ⟨hx, hb, hml, hown, hts⟩ (ctX7_ends l g a_mo a_ms a_mwas a_mtried a_msaved a_mpast a_mfar a_mdrift a_mline a_mtape a_mcommands _ m_changes m_thrown_v2 m_errorAt m_failedAt m_answer m_isSaved m_lined m_taped m_here m_commandMany m_was_v1 m_past r2 hw) (cwV 1 hts gX7_loadSalt_X7_ends rfl rfl rfl (by decide +kernel) ⟨Nat.le_of_ble_eq_true rfl, Nat.le_of_ble_eq_true rfl⟩) hE (gSub hP [0, 2, 3]) (gDSub hD [0, 2, 3] rfl) 0 11 rfl rfl rfl rfl rfl hl.1 rfl (lv_room (Nat.le_of_ble_eq_true rfl)) dX7_loadSalt_10 ⟨Nat.le_of_ble_eq_true rfl, Nat.le_of_ble_eq_true rfl⟩) hP hD hS hA [0, 2, 3] rfl (fun _ _ => rfl) rfl (fun r3 m_changes_v3 m_past_v3 H locs hw hP hD hS => ?_)
  have hP : va_P g.1 vwCl (List.flatten [kMo g a_mo a_ms a_mwas a_mtried a_msaved a_mpast a_mfar a_mdrift a_mline a_mtape a_mcommands m_changes_v3 m_thrown_v2 m_errorAt m_failedAt m_answer m_isSaved m_lined m_taped m_here m_commandMany, kAr g a_ms 130 m_s_v2, kAr g a_mwas 130 m_was_v1, kAr g a_mpast 1040 m_past_v3]) H := hP
  have hD : va_D A (List.flatten [kMo g a_mo a_ms a_mwas a_mtried a_msaved a_mpast a_mfar a_mdrift a_mline a_mtape a_mcommands m_changes_v3 m_thrown_v2 m_errorAt m_failedAt m_answer m_isSaved m_lined m_taped m_here m_commandMany, kAr g a_ms 130 m_s_v2, kAr g a_mwas 130 m_was_v1, kAr g a_mpast 1040 m_past_v3]) := hD
  subst hQ
  exact W.iret hx hb hr (gRi5 (c1 := m_changes_v3) (c2 := m_thrown_v2) (c3 := m_s_v2) (c4 := m_was_v1) (c5 := m_past_v3) (wf := _) hA0 hsz hw hP hD hS) hS.2.2 dX7_loadSalt_13
abbrev rmX7_tells : Room := { frames := 2, cells := 0, slots := 0, locals := 123 }
set_option maxRecDepth 20000 in
theorem inX7_tells_X7 : ∀ w ∈ wsX70, w ∈ wsX7_tells := by decide +kernel
set_option maxHeartbeats 4000000 in
set_option maxRecDepth 100000 in
theorem ctX7_tells (l : Launch) (g : GG) (a_mo : Nat → Nat) (a_ms : Nat → Nat) (a_mwas : Nat → Nat) (a_mtried : Nat → Nat) (a_msaved : Nat → Nat) (a_mpast : Nat → Nat) (a_mfar : Nat → Nat) (a_mdrift : Nat → Nat) (a_mline : Nat → Nat) (a_mtape : Nat → Nat) (a_mcommands : Nat → Nat) (sz : Nat) (m_changes : Int32) (m_thrown : Int32) (m_errorAt : Int32) (m_failedAt : Int32) (m_answer : Int32) (m_isSaved : Int32) (m_lined : Int32) (m_taped : Int32) (m_here : Int32) (m_commandMany : Int32) (m_s : Nat → Int32) (x1 : Int32) (x2 : Int32) {post : Int32 → Int32 → (Nat → Int32) → Prop} (hw : wpX7_tells x1 x2 m_thrown m_s post) :
    Met l yX7_tells wsX7_tells rmX7_tells (gPc g sz (List.flatten [kMo g a_mo a_ms a_mwas a_mtried a_msaved a_mpast a_mfar a_mdrift a_mline a_mtape a_mcommands m_changes m_thrown m_errorAt m_failedAt m_answer m_isSaved m_lined m_taped m_here m_commandMany, kAr g a_ms 130 m_s]) [.ref (a_mo 0), .int x1, .int x2]) (gQi2 post (fun u1 u2 => gB g (List.flatten [kMo g a_mo a_ms a_mwas a_mtried a_msaved a_mpast a_mfar a_mdrift a_mline a_mtape a_mcommands m_changes m_thrown m_errorAt m_failedAt m_answer m_isSaved m_lined m_taped m_here m_commandMany, kAr g a_ms 130 m_s]) sz (List.flatten [kMo g a_mo a_ms a_mwas a_mtried a_msaved a_mpast a_mfar a_mdrift a_mline a_mtape a_mcommands m_changes u1 m_errorAt m_failedAt m_answer m_isSaved m_lined m_taped m_here m_commandMany, kAr g a_ms 130 u2])) (va_A (List.flatten [kMo g a_mo a_ms a_mwas a_mtried a_msaved a_mpast a_mfar a_mdrift a_mline a_mtape a_mcommands m_changes m_thrown m_errorAt m_failedAt m_answer m_isSaved m_lined m_taped m_here m_commandMany, kAr g a_ms 130 m_s]) sz)) 0 0 (va_A (List.flatten [kMo g a_mo a_ms a_mwas a_mtried a_msaved a_mpast a_mfar a_mdrift a_mline a_mtape a_mcommands m_changes m_thrown m_errorAt m_failedAt m_answer m_isSaved m_lined m_taped m_here m_commandMany, kAr g a_ms 130 m_s]) sz) := by
  refine gOf (cc := cX7_tells) (maxL := 4) (ret := (some .int)) (by decide) rfl (Nat.le_of_ble_eq_true rfl) ?_
  intro p e s m below meth c ls Q A hQ hx hb hr hml hts hown hlocks hE hA0 hsz hP hD hA hS hl
  have hl : lv_has ls 4 [(0, .ref (a_mo 0)), (1, .int x1), (2, .int x2)] := hl
  have J16 : ∀ (z1_16 : Int32) (m_thrown_16 : Int32) (m_s_16 : Nat → Int32) (H : Heap) (locs : List Loc) (ls : Array Slot), wpX7_tells_L16 x1 x2 post z1_16 m_thrown_16 m_s_16 → va_P g.1 vwCl (List.flatten [kMo g a_mo a_ms a_mwas a_mtried a_msaved a_mpast a_mfar a_mdrift a_mline a_mtape a_mcommands m_changes m_thrown_16 m_errorAt m_failedAt m_answer m_isSaved m_lined m_taped m_here m_commandMany, kAr g a_ms 130 m_s_16]) H → va_D A (List.flatten [kMo g a_mo a_ms a_mwas a_mtried a_msaved a_mpast a_mfar a_mdrift a_mline a_mtape a_mcommands m_changes m_thrown_16 m_errorAt m_failedAt m_answer m_isSaved m_lined m_taped m_here m_commandMany, kAr g a_ms 130 m_s_16]) → va_S A s.heap H locs → lv_has ls 4 [(0, .ref (a_mo 0)), (1, .int x1), (2, .int x2)] → W p l e rmX7_tells s m (([.ref (a_mo 0), .int x1, .int x2] : List Value).toArray) below meth c H locs 0 0 Q (F0 m 16 ls [.int z1_16, .ref (a_mo 0)]) := by
    intro z1_16 m_thrown_16 m_s_16 H locs ls hw hP hD hS hl
    refine lv_iconst (v := 1) hx hb dX7_tells_16 (by decide) ?_
    refine gCi1 (gRunV (As := [.int z1_16, .int 1]) (rest := []) ⟨hx, hb, hml, hown, hts⟩ (ctX7_isThrown l g a_mo a_ms a_mwas a_mtried a_msaved a_mpast a_mfar a_mdrift a_mline a_mtape a_mcommands _ m_changes m_thrown_16 m_errorAt m_failedAt m_answer m_isSaved m_lined m_taped m_here m_commandMany z1_16 1 hw) (cwV 2 hts gX7_tells_X7_isThrown rfl rfl rfl (by decide +kernel) ⟨Nat.le_of_ble_eq_true rfl, Nat.le_of_ble_eq_true rfl⟩) hE (gSub hP [0]) (gDSub hD [0] rfl) 0 11 rfl rfl rfl rfl rfl hl.1 rfl (lv_room (Nat.le_of_ble_eq_true rfl)) dX7_tells_17 ⟨Nat.le_of_ble_eq_true rfl, Nat.le_of_ble_eq_true rfl⟩) hP hD hS hA [0] rfl (fun _ => rfl) rfl (fun r2 m_thrown_v2 H locs hw hP hD hS => ?_)
    have hP : va_P g.1 vwCl (List.flatten [kMo g a_mo a_ms a_mwas a_mtried a_msaved a_mpast a_mfar a_mdrift a_mline a_mtape a_mcommands m_changes m_thrown_v2 m_errorAt m_failedAt m_answer m_isSaved m_lined m_taped m_here m_commandMany, kAr g a_ms 130 m_s_16]) H := hP
    have hD : va_D A (List.flatten [kMo g a_mo a_ms a_mwas a_mtried a_msaved a_mpast a_mfar a_mdrift a_mline a_mtape a_mcommands m_changes m_thrown_v2 m_errorAt m_failedAt m_answer m_isSaved m_lined m_taped m_here m_commandMany, kAr g a_ms 130 m_s_16]) := hD
    refine lv_if_eq (tgt := 25) hx hb dX7_tells_20 (by decide) (fun c_20 => ?_) (fun c_20 => ?_)
    · have hw := hw.1 c_20
      refine lv_aload_n hx hb dX7_tells_25 rfl (lv_at hl 0 rfl) ?_
      refine va_get (D := g.1) (ci := 11) (v := .ref (a_ms 0)) (C := RX7) (T := TX7) (N := 20) hx hb hts inX7_tells_X7 hown hE.1 hP 0 rfl rfl 0 (by decide) (gW hts 1 (.fieldLink RX7 9 "SnowDispatcherModel" "s" "[I") rfl) (fun _ h9 => h9) rfl dX7_tells_26 ?_
      refine lv_iload_n hx hb dX7_tells_29 rfl (lv_at hl 1 rfl) ?_
      have h3 := hw.1
      have hw := hw.2
      refine va_iald hx hb hE.1 hP 1 0 rfl rfl h3 dX7_tells_30 ?_
      refine lv_istore_n (lv' := [(3, .int (m_s_16 x1.toNatClampNeg)), (0, .ref (a_mo 0)), (1, .int x1), (2, .int x2)]) hx hb dX7_tells_31 rfl hl (by decide) rfl (fun ls hl => ?_)
      refine lv_aload_n hx hb dX7_tells_32 rfl (lv_at hl 1 rfl) ?_
      refine va_get (D := g.1) (ci := 11) (v := .ref (a_ms 0)) (C := RX7) (T := TX7) (N := 20) hx hb hts inX7_tells_X7 hown hE.1 hP 0 rfl rfl 0 (by decide) (gW hts 1 (.fieldLink RX7 9 "SnowDispatcherModel" "s" "[I") rfl) (fun _ h9 => h9) rfl dX7_tells_33 ?_
      refine lv_iload_n hx hb dX7_tells_36 rfl (lv_at hl 2 rfl) ?_
      refine lv_iload_n hx hb dX7_tells_37 rfl (lv_at hl 3 rfl) ?_
      have h4 := hw.1
      have hw := hw.2
      refine va_iast hx hb hE.1 hP hD hS 1 0 rfl rfl h4 dX7_tells_38 (fun H locs hP hD hS => ?_)
      have hP : va_P g.1 vwCl (List.flatten [kMo g a_mo a_ms a_mwas a_mtried a_msaved a_mpast a_mfar a_mdrift a_mline a_mtape a_mcommands m_changes m_thrown_v2 m_errorAt m_failedAt m_answer m_isSaved m_lined m_taped m_here m_commandMany, kAr g a_ms 130 (upd m_s_16 x1.toNatClampNeg x2)]) H := hP
      have hD : va_D A (List.flatten [kMo g a_mo a_ms a_mwas a_mtried a_msaved a_mpast a_mfar a_mdrift a_mline a_mtape a_mcommands m_changes m_thrown_v2 m_errorAt m_failedAt m_answer m_isSaved m_lined m_taped m_here m_commandMany, kAr g a_ms 130 (upd m_s_16 x1.toNatClampNeg x2)]) := hD
      refine lv_iload_n hx hb dX7_tells_39 rfl (lv_at hl 0 rfl) ?_
      subst hQ
      exact W.iret hx hb hr (gRi2 (c1 := m_thrown_v2) (c2 := (upd m_s_16 x1.toNatClampNeg x2)) (wf := _) hA0 hsz hw hP hD hS) hS.2.2 dX7_tells_40
    · have hw := hw.2 c_20
      refine lv_iconst (v := 0) hx hb dX7_tells_23 (by decide) ?_
      subst hQ
      exact W.iret hx hb hr (gRi2 (c1 := m_thrown_v2) (c2 := m_s_16) (wf := _) hA0 hsz hw hP hD hS) hS.2.2 dX7_tells_24
  refine lv_aload_n hx hb dX7_tells_0 rfl (lv_at hl 0 rfl) ?_
  refine lv_iload_n hx hb dX7_tells_1 rfl (lv_at hl 2 rfl) ?_
  refine lv_iconst (v := 0) hx hb dX7_tells_2 (by decide) ?_
  refine lv_bipush (v := 9) hx hb dX7_tells_3 (by decide) ?_
  refine gCi0 (gRunS (As := [.int x2, .int 0, .int 9]) (rest := [.ref (a_mo 0)]) ⟨hx, hb, hml, hown, hts⟩ (ctX7_isIn l g _ x2 0 9 hw) (va_cwS 3 hts gX7_tells_X7_isIn rfl rfl rfl (by decide +kernel) ⟨Nat.le_of_ble_eq_true rfl, Nat.le_of_ble_eq_true rfl⟩) hE (gSub hP []) (gDSub hD [] rfl) rfl rfl hl.1 rfl (lv_room (Nat.le_of_ble_eq_true rfl)) dX7_tells_5 ⟨Nat.le_of_ble_eq_true rfl, Nat.le_of_ble_eq_true rfl⟩) hP hD hS hA [] rfl rfl rfl (fun r1 H locs hw hP hD hS => ?_)
  have hP : va_P g.1 vwCl (List.flatten [kMo g a_mo a_ms a_mwas a_mtried a_msaved a_mpast a_mfar a_mdrift a_mline a_mtape a_mcommands m_changes m_thrown m_errorAt m_failedAt m_answer m_isSaved m_lined m_taped m_here m_commandMany, kAr g a_ms 130 m_s]) H := hP
  have hD : va_D A (List.flatten [kMo g a_mo a_ms a_mwas a_mtried a_msaved a_mpast a_mfar a_mdrift a_mline a_mtape a_mcommands m_changes m_thrown m_errorAt m_failedAt m_answer m_isSaved m_lined m_taped m_here m_commandMany, kAr g a_ms 130 m_s]) := hD
  refine lv_if_ne (tgt := 15) hx hb dX7_tells_8 (by decide) (fun c_8 => ?_) (fun c_8 => ?_)
  · have hw := hw.1 c_8
    refine lv_iconst (v := 0) hx hb dX7_tells_15 (by decide) ?_
    exact J16 0 m_thrown m_s _ _ _ hw hP hD hS (lv_sub hl [0, 1, 2] rfl)
  · have hw := hw.2 c_8
    refine lv_iconst (v := 1) hx hb dX7_tells_11 (by decide) ?_
    refine lv_goto (tgt := 16) hx hb dX7_tells_12 (by decide) ?_
    exact J16 1 m_thrown m_s _ _ _ hw hP hD hS (lv_sub hl [0, 1, 2] rfl)
abbrev rmX7_setSnowfall : Room := { frames := 3, cells := 0, slots := 0, locals := 148 }
set_option maxRecDepth 20000 in
theorem inX7_setSnowfall_X7 : ∀ w ∈ wsX70, w ∈ wsX7_setSnowfall := by decide +kernel
set_option maxHeartbeats 4000000 in
set_option maxRecDepth 100000 in
theorem ctX7_setSnowfall (l : Launch) (g : GG) (a_mo : Nat → Nat) (a_ms : Nat → Nat) (a_mwas : Nat → Nat) (a_mtried : Nat → Nat) (a_msaved : Nat → Nat) (a_mpast : Nat → Nat) (a_mfar : Nat → Nat) (a_mdrift : Nat → Nat) (a_mline : Nat → Nat) (a_mtape : Nat → Nat) (a_mcommands : Nat → Nat) (sz : Nat) (m_changes : Int32) (m_thrown : Int32) (m_errorAt : Int32) (m_failedAt : Int32) (m_answer : Int32) (m_isSaved : Int32) (m_lined : Int32) (m_taped : Int32) (m_here : Int32) (m_commandMany : Int32) (m_s : Nat → Int32) (m_was : Nat → Int32) (m_past : Nat → Int32) (x1 : Int32) {post : Int32 → Int32 → Int32 → (Nat → Int32) → (Nat → Int32) → (Nat → Int32) → Prop} (hw : wpX7_setSnowfall x1 m_changes m_thrown m_s m_was m_past post) :
    Met l yX7_setSnowfall wsX7_setSnowfall rmX7_setSnowfall (gPc g sz (List.flatten [kMo g a_mo a_ms a_mwas a_mtried a_msaved a_mpast a_mfar a_mdrift a_mline a_mtape a_mcommands m_changes m_thrown m_errorAt m_failedAt m_answer m_isSaved m_lined m_taped m_here m_commandMany, kAr g a_ms 130 m_s, kAr g a_mwas 130 m_was, kAr g a_mpast 1040 m_past]) [.ref (a_mo 0), .int x1]) (gQi5 post (fun u1 u2 u3 u4 u5 => gB g (List.flatten [kMo g a_mo a_ms a_mwas a_mtried a_msaved a_mpast a_mfar a_mdrift a_mline a_mtape a_mcommands m_changes m_thrown m_errorAt m_failedAt m_answer m_isSaved m_lined m_taped m_here m_commandMany, kAr g a_ms 130 m_s, kAr g a_mwas 130 m_was, kAr g a_mpast 1040 m_past]) sz (List.flatten [kMo g a_mo a_ms a_mwas a_mtried a_msaved a_mpast a_mfar a_mdrift a_mline a_mtape a_mcommands u1 u2 m_errorAt m_failedAt m_answer m_isSaved m_lined m_taped m_here m_commandMany, kAr g a_ms 130 u3, kAr g a_mwas 130 u4, kAr g a_mpast 1040 u5])) (va_A (List.flatten [kMo g a_mo a_ms a_mwas a_mtried a_msaved a_mpast a_mfar a_mdrift a_mline a_mtape a_mcommands m_changes m_thrown m_errorAt m_failedAt m_answer m_isSaved m_lined m_taped m_here m_commandMany, kAr g a_ms 130 m_s, kAr g a_mwas 130 m_was, kAr g a_mpast 1040 m_past]) sz)) 0 0 (va_A (List.flatten [kMo g a_mo a_ms a_mwas a_mtried a_msaved a_mpast a_mfar a_mdrift a_mline a_mtape a_mcommands m_changes m_thrown m_errorAt m_failedAt m_answer m_isSaved m_lined m_taped m_here m_commandMany, kAr g a_ms 130 m_s, kAr g a_mwas 130 m_was, kAr g a_mpast 1040 m_past]) sz) := by
  refine gOf (cc := cX7_setSnowfall) (maxL := 2) (ret := (some .int)) (by decide) rfl (Nat.le_of_ble_eq_true rfl) ?_
  intro p e s m below meth c ls Q A hQ hx hb hr hml hts hown hlocks hE hA0 hsz hP hD hA hS hl
  have hl : lv_has ls 2 [(0, .ref (a_mo 0)), (1, .int x1)] := hl
  refine lv_aload_n hx hb dX7_setSnowfall_0 rfl (lv_at hl 0 rfl) ?_
  refine gCv2 (gRunV (As := []) (rest := []) ⟨hx, hb, hml, hown, hts⟩ (ctX7_keeps l g a_mo a_ms a_mwas a_mtried a_msaved a_mpast a_mfar a_mdrift a_mline a_mtape a_mcommands _ m_changes m_thrown m_errorAt m_failedAt m_answer m_isSaved m_lined m_taped m_here m_commandMany m_s m_was hw) (cwV 0 hts gX7_setSnowfall_X7_keeps rfl rfl rfl (by decide +kernel) ⟨Nat.le_of_ble_eq_true rfl, Nat.le_of_ble_eq_true rfl⟩) hE (gSub hP [0, 1, 2]) (gDSub hD [0, 1, 2] rfl) 0 11 rfl rfl rfl rfl rfl hl.1 rfl (lv_room (Nat.le_of_ble_eq_true rfl)) dX7_setSnowfall_1 ⟨Nat.le_of_ble_eq_true rfl, Nat.le_of_ble_eq_true rfl⟩) hP hD hS hA [0, 1, 2] rfl (fun _ _ => rfl) rfl (fun m_thrown_v1 m_was_v1 H locs hw hP hD hS => ?_)
  have hP : va_P g.1 vwCl (List.flatten [kMo g a_mo a_ms a_mwas a_mtried a_msaved a_mpast a_mfar a_mdrift a_mline a_mtape a_mcommands m_changes m_thrown_v1 m_errorAt m_failedAt m_answer m_isSaved m_lined m_taped m_here m_commandMany, kAr g a_ms 130 m_s, kAr g a_mwas 130 m_was_v1, kAr g a_mpast 1040 m_past]) H := hP
  have hD : va_D A (List.flatten [kMo g a_mo a_ms a_mwas a_mtried a_msaved a_mpast a_mfar a_mdrift a_mline a_mtape a_mcommands m_changes m_thrown_v1 m_errorAt m_failedAt m_answer m_isSaved m_lined m_taped m_here m_commandMany, kAr g a_ms 130 m_s, kAr g a_mwas 130 m_was_v1, kAr g a_mpast 1040 m_past]) := hD
  refine lv_aload_n hx hb dX7_setSnowfall_4 rfl (lv_at hl 0 rfl) ?_
  refine lv_aload_n hx hb dX7_setSnowfall_5 rfl (lv_at hl 0 rfl) ?_
  refine lv_iconst (v := 4) hx hb dX7_setSnowfall_6 (by decide) ?_
  refine lv_iload_n hx hb dX7_setSnowfall_7 rfl (lv_at hl 1 rfl) ?_
  refine gCi2 (gRunV (As := [.int 4, .int x1]) (rest := [.ref (a_mo 0)]) ⟨hx, hb, hml, hown, hts⟩ (ctX7_tells l g a_mo a_ms a_mwas a_mtried a_msaved a_mpast a_mfar a_mdrift a_mline a_mtape a_mcommands _ m_changes m_thrown_v1 m_errorAt m_failedAt m_answer m_isSaved m_lined m_taped m_here m_commandMany m_s 4 x1 hw) (cwV 2 hts gX7_setSnowfall_X7_tells rfl rfl rfl (by decide +kernel) ⟨Nat.le_of_ble_eq_true rfl, Nat.le_of_ble_eq_true rfl⟩) hE (gSub hP [0, 1]) (gDSub hD [0, 1] rfl) 0 11 rfl rfl rfl rfl rfl hl.1 rfl (lv_room (Nat.le_of_ble_eq_true rfl)) dX7_setSnowfall_8 ⟨Nat.le_of_ble_eq_true rfl, Nat.le_of_ble_eq_true rfl⟩) hP hD hS hA [0, 1] rfl (fun _ _ => rfl) rfl (fun r2 m_thrown_v2 m_s_v2 H locs hw hP hD hS => ?_)
  have hP : va_P g.1 vwCl (List.flatten [kMo g a_mo a_ms a_mwas a_mtried a_msaved a_mpast a_mfar a_mdrift a_mline a_mtape a_mcommands m_changes m_thrown_v2 m_errorAt m_failedAt m_answer m_isSaved m_lined m_taped m_here m_commandMany, kAr g a_ms 130 m_s_v2, kAr g a_mwas 130 m_was_v1, kAr g a_mpast 1040 m_past]) H := hP
  have hD : va_D A (List.flatten [kMo g a_mo a_ms a_mwas a_mtried a_msaved a_mpast a_mfar a_mdrift a_mline a_mtape a_mcommands m_changes m_thrown_v2 m_errorAt m_failedAt m_answer m_isSaved m_lined m_taped m_here m_commandMany, kAr g a_ms 130 m_s_v2, kAr g a_mwas 130 m_was_v1, kAr g a_mpast 1040 m_past]) := hD
  refine gCi2 (gRunV (As := [.int r2]) (rest := []) ⟨hx, hb, hml, hown, hts⟩ (ctX7_ends l g a_mo a_ms a_mwas a_mtried a_msaved a_mpast a_mfar a_mdrift a_mline a_mtape a_mcommands _ m_changes m_thrown_v2 m_errorAt m_failedAt m_answer m_isSaved m_lined m_taped m_here m_commandMany m_was_v1 m_past r2 hw) (cwV 1 hts gX7_setSnowfall_X7_ends rfl rfl rfl (by decide +kernel) ⟨Nat.le_of_ble_eq_true rfl, Nat.le_of_ble_eq_true rfl⟩) hE (gSub hP [0, 2, 3]) (gDSub hD [0, 2, 3] rfl) 0 11 rfl rfl rfl rfl rfl hl.1 rfl (lv_room (Nat.le_of_ble_eq_true rfl)) dX7_setSnowfall_11 ⟨Nat.le_of_ble_eq_true rfl, Nat.le_of_ble_eq_true rfl⟩) hP hD hS hA [0, 2, 3] rfl (fun _ _ => rfl) rfl (fun r3 m_changes_v3 m_past_v3 H locs hw hP hD hS => ?_)
  have hP : va_P g.1 vwCl (List.flatten [kMo g a_mo a_ms a_mwas a_mtried a_msaved a_mpast a_mfar a_mdrift a_mline a_mtape a_mcommands m_changes_v3 m_thrown_v2 m_errorAt m_failedAt m_answer m_isSaved m_lined m_taped m_here m_commandMany, kAr g a_ms 130 m_s_v2, kAr g a_mwas 130 m_was_v1, kAr g a_mpast 1040 m_past_v3]) H := hP
  have hD : va_D A (List.flatten [kMo g a_mo a_ms a_mwas a_mtried a_msaved a_mpast a_mfar a_mdrift a_mline a_mtape a_mcommands m_changes_v3 m_thrown_v2 m_errorAt m_failedAt m_answer m_isSaved m_lined m_taped m_here m_commandMany, kAr g a_ms 130 m_s_v2, kAr g a_mwas 130 m_was_v1, kAr g a_mpast 1040 m_past_v3]) := hD
  subst hQ
  exact W.iret hx hb hr (gRi5 (c1 := m_changes_v3) (c2 := m_thrown_v2) (c3 := m_s_v2) (c4 := m_was_v1) (c5 := m_past_v3) (wf := _) hA0 hsz hw hP hD hS) hS.2.2 dX7_setSnowfall_14
abbrev rmX7_setWind : Room := { frames := 3, cells := 0, slots := 0, locals := 148 }
set_option maxRecDepth 20000 in
theorem inX7_setWind_X7 : ∀ w ∈ wsX70, w ∈ wsX7_setWind := by decide +kernel
set_option maxHeartbeats 4000000 in
set_option maxRecDepth 100000 in
theorem ctX7_setWind (l : Launch) (g : GG) (a_mo : Nat → Nat) (a_ms : Nat → Nat) (a_mwas : Nat → Nat) (a_mtried : Nat → Nat) (a_msaved : Nat → Nat) (a_mpast : Nat → Nat) (a_mfar : Nat → Nat) (a_mdrift : Nat → Nat) (a_mline : Nat → Nat) (a_mtape : Nat → Nat) (a_mcommands : Nat → Nat) (sz : Nat) (m_changes : Int32) (m_thrown : Int32) (m_errorAt : Int32) (m_failedAt : Int32) (m_answer : Int32) (m_isSaved : Int32) (m_lined : Int32) (m_taped : Int32) (m_here : Int32) (m_commandMany : Int32) (m_s : Nat → Int32) (m_was : Nat → Int32) (m_past : Nat → Int32) (x1 : Int32) {post : Int32 → Int32 → Int32 → (Nat → Int32) → (Nat → Int32) → (Nat → Int32) → Prop} (hw : wpX7_setWind x1 m_changes m_thrown m_s m_was m_past post) :
    Met l yX7_setWind wsX7_setWind rmX7_setWind (gPc g sz (List.flatten [kMo g a_mo a_ms a_mwas a_mtried a_msaved a_mpast a_mfar a_mdrift a_mline a_mtape a_mcommands m_changes m_thrown m_errorAt m_failedAt m_answer m_isSaved m_lined m_taped m_here m_commandMany, kAr g a_ms 130 m_s, kAr g a_mwas 130 m_was, kAr g a_mpast 1040 m_past]) [.ref (a_mo 0), .int x1]) (gQi5 post (fun u1 u2 u3 u4 u5 => gB g (List.flatten [kMo g a_mo a_ms a_mwas a_mtried a_msaved a_mpast a_mfar a_mdrift a_mline a_mtape a_mcommands m_changes m_thrown m_errorAt m_failedAt m_answer m_isSaved m_lined m_taped m_here m_commandMany, kAr g a_ms 130 m_s, kAr g a_mwas 130 m_was, kAr g a_mpast 1040 m_past]) sz (List.flatten [kMo g a_mo a_ms a_mwas a_mtried a_msaved a_mpast a_mfar a_mdrift a_mline a_mtape a_mcommands u1 u2 m_errorAt m_failedAt m_answer m_isSaved m_lined m_taped m_here m_commandMany, kAr g a_ms 130 u3, kAr g a_mwas 130 u4, kAr g a_mpast 1040 u5])) (va_A (List.flatten [kMo g a_mo a_ms a_mwas a_mtried a_msaved a_mpast a_mfar a_mdrift a_mline a_mtape a_mcommands m_changes m_thrown m_errorAt m_failedAt m_answer m_isSaved m_lined m_taped m_here m_commandMany, kAr g a_ms 130 m_s, kAr g a_mwas 130 m_was, kAr g a_mpast 1040 m_past]) sz)) 0 0 (va_A (List.flatten [kMo g a_mo a_ms a_mwas a_mtried a_msaved a_mpast a_mfar a_mdrift a_mline a_mtape a_mcommands m_changes m_thrown m_errorAt m_failedAt m_answer m_isSaved m_lined m_taped m_here m_commandMany, kAr g a_ms 130 m_s, kAr g a_mwas 130 m_was, kAr g a_mpast 1040 m_past]) sz) := by
  refine gOf (cc := cX7_setWind) (maxL := 2) (ret := (some .int)) (by decide) rfl (Nat.le_of_ble_eq_true rfl) ?_
  intro p e s m below meth c ls Q A hQ hx hb hr hml hts hown hlocks hE hA0 hsz hP hD hA hS hl
  have hl : lv_has ls 2 [(0, .ref (a_mo 0)), (1, .int x1)] := hl
  refine lv_aload_n hx hb dX7_setWind_0 rfl (lv_at hl 0 rfl) ?_
  refine gCv2 (gRunV (As := []) (rest := []) ⟨hx, hb, hml, hown, hts⟩ (ctX7_keeps l g a_mo a_ms a_mwas a_mtried a_msaved a_mpast a_mfar a_mdrift a_mline a_mtape a_mcommands _ m_changes m_thrown m_errorAt m_failedAt m_answer m_isSaved m_lined m_taped m_here m_commandMany m_s m_was hw) (cwV 0 hts gX7_setWind_X7_keeps rfl rfl rfl (by decide +kernel) ⟨Nat.le_of_ble_eq_true rfl, Nat.le_of_ble_eq_true rfl⟩) hE (gSub hP [0, 1, 2]) (gDSub hD [0, 1, 2] rfl) 0 11 rfl rfl rfl rfl rfl hl.1 rfl (lv_room (Nat.le_of_ble_eq_true rfl)) dX7_setWind_1 ⟨Nat.le_of_ble_eq_true rfl, Nat.le_of_ble_eq_true rfl⟩) hP hD hS hA [0, 1, 2] rfl (fun _ _ => rfl) rfl (fun m_thrown_v1 m_was_v1 H locs hw hP hD hS => ?_)
  have hP : va_P g.1 vwCl (List.flatten [kMo g a_mo a_ms a_mwas a_mtried a_msaved a_mpast a_mfar a_mdrift a_mline a_mtape a_mcommands m_changes m_thrown_v1 m_errorAt m_failedAt m_answer m_isSaved m_lined m_taped m_here m_commandMany, kAr g a_ms 130 m_s, kAr g a_mwas 130 m_was_v1, kAr g a_mpast 1040 m_past]) H := hP
  have hD : va_D A (List.flatten [kMo g a_mo a_ms a_mwas a_mtried a_msaved a_mpast a_mfar a_mdrift a_mline a_mtape a_mcommands m_changes m_thrown_v1 m_errorAt m_failedAt m_answer m_isSaved m_lined m_taped m_here m_commandMany, kAr g a_ms 130 m_s, kAr g a_mwas 130 m_was_v1, kAr g a_mpast 1040 m_past]) := hD
  refine lv_aload_n hx hb dX7_setWind_4 rfl (lv_at hl 0 rfl) ?_
  refine lv_aload_n hx hb dX7_setWind_5 rfl (lv_at hl 0 rfl) ?_
  refine lv_iconst (v := 5) hx hb dX7_setWind_6 (by decide) ?_
  refine lv_iload_n hx hb dX7_setWind_7 rfl (lv_at hl 1 rfl) ?_
  refine gCi2 (gRunV (As := [.int 5, .int x1]) (rest := [.ref (a_mo 0)]) ⟨hx, hb, hml, hown, hts⟩ (ctX7_tells l g a_mo a_ms a_mwas a_mtried a_msaved a_mpast a_mfar a_mdrift a_mline a_mtape a_mcommands _ m_changes m_thrown_v1 m_errorAt m_failedAt m_answer m_isSaved m_lined m_taped m_here m_commandMany m_s 5 x1 hw) (cwV 2 hts gX7_setWind_X7_tells rfl rfl rfl (by decide +kernel) ⟨Nat.le_of_ble_eq_true rfl, Nat.le_of_ble_eq_true rfl⟩) hE (gSub hP [0, 1]) (gDSub hD [0, 1] rfl) 0 11 rfl rfl rfl rfl rfl hl.1 rfl (lv_room (Nat.le_of_ble_eq_true rfl)) dX7_setWind_8 ⟨Nat.le_of_ble_eq_true rfl, Nat.le_of_ble_eq_true rfl⟩) hP hD hS hA [0, 1] rfl (fun _ _ => rfl) rfl (fun r2 m_thrown_v2 m_s_v2 H locs hw hP hD hS => ?_)
  have hP : va_P g.1 vwCl (List.flatten [kMo g a_mo a_ms a_mwas a_mtried a_msaved a_mpast a_mfar a_mdrift a_mline a_mtape a_mcommands m_changes m_thrown_v2 m_errorAt m_failedAt m_answer m_isSaved m_lined m_taped m_here m_commandMany, kAr g a_ms 130 m_s_v2, kAr g a_mwas 130 m_was_v1, kAr g a_mpast 1040 m_past]) H := hP
  have hD : va_D A (List.flatten [kMo g a_mo a_ms a_mwas a_mtried a_msaved a_mpast a_mfar a_mdrift a_mline a_mtape a_mcommands m_changes m_thrown_v2 m_errorAt m_failedAt m_answer m_isSaved m_lined m_taped m_here m_commandMany, kAr g a_ms 130 m_s_v2, kAr g a_mwas 130 m_was_v1, kAr g a_mpast 1040 m_past]) := hD
  refine gCi2 (gRunV (As := [.int r2]) (rest := []) ⟨hx, hb, hml, hown, hts⟩ (ctX7_ends l g a_mo a_ms a_mwas a_mtried a_msaved a_mpast a_mfar a_mdrift a_mline a_mtape a_mcommands _ m_changes m_thrown_v2 m_errorAt m_failedAt m_answer m_isSaved m_lined m_taped m_here m_commandMany m_was_v1 m_past r2 hw) (cwV 1 hts gX7_setWind_X7_ends rfl rfl rfl (by decide +kernel) ⟨Nat.le_of_ble_eq_true rfl, Nat.le_of_ble_eq_true rfl⟩) hE (gSub hP [0, 2, 3]) (gDSub hD [0, 2, 3] rfl) 0 11 rfl rfl rfl rfl rfl hl.1 rfl (lv_room (Nat.le_of_ble_eq_true rfl)) dX7_setWind_11 ⟨Nat.le_of_ble_eq_true rfl, Nat.le_of_ble_eq_true rfl⟩) hP hD hS hA [0, 2, 3] rfl (fun _ _ => rfl) rfl (fun r3 m_changes_v3 m_past_v3 H locs hw hP hD hS => ?_)
  have hP : va_P g.1 vwCl (List.flatten [kMo g a_mo a_ms a_mwas a_mtried a_msaved a_mpast a_mfar a_mdrift a_mline a_mtape a_mcommands m_changes_v3 m_thrown_v2 m_errorAt m_failedAt m_answer m_isSaved m_lined m_taped m_here m_commandMany, kAr g a_ms 130 m_s_v2, kAr g a_mwas 130 m_was_v1, kAr g a_mpast 1040 m_past_v3]) H := hP
  have hD : va_D A (List.flatten [kMo g a_mo a_ms a_mwas a_mtried a_msaved a_mpast a_mfar a_mdrift a_mline a_mtape a_mcommands m_changes_v3 m_thrown_v2 m_errorAt m_failedAt m_answer m_isSaved m_lined m_taped m_here m_commandMany, kAr g a_ms 130 m_s_v2, kAr g a_mwas 130 m_was_v1, kAr g a_mpast 1040 m_past_v3]) := hD
  subst hQ
  exact W.iret hx hb hr (gRi5 (c1 := m_changes_v3) (c2 := m_thrown_v2) (c3 := m_s_v2) (c4 := m_was_v1) (c5 := m_past_v3) (wf := _) hA0 hsz hw hP hD hS) hS.2.2 dX7_setWind_14
abbrev rmX7_finds : Room := { frames := 2, cells := 0, slots := 0, locals := 123 }
set_option maxRecDepth 20000 in
theorem inX7_finds_X7 : ∀ w ∈ wsX70, w ∈ wsX7_finds := by decide +kernel
set_option maxHeartbeats 4000000 in
set_option maxRecDepth 100000 in
theorem ctX7_finds (l : Launch) (g : GG) (a_mo : Nat → Nat) (a_ms : Nat → Nat) (a_mwas : Nat → Nat) (a_mtried : Nat → Nat) (a_msaved : Nat → Nat) (a_mpast : Nat → Nat) (a_mfar : Nat → Nat) (a_mdrift : Nat → Nat) (a_mline : Nat → Nat) (a_mtape : Nat → Nat) (a_mcommands : Nat → Nat) (sz : Nat) (m_changes : Int32) (m_thrown : Int32) (m_errorAt : Int32) (m_failedAt : Int32) (m_answer : Int32) (m_isSaved : Int32) (m_lined : Int32) (m_taped : Int32) (m_here : Int32) (m_commandMany : Int32) (m_s : Nat → Int32) (m_far : Nat → Int32) (x1 : Int32) {post : (Nat → Int32) → Prop} (hw : wpX7_finds x1 m_s m_far post) :
    Met l yX7_finds wsX7_finds rmX7_finds (gPc g sz (List.flatten [kMo g a_mo a_ms a_mwas a_mtried a_msaved a_mpast a_mfar a_mdrift a_mline a_mtape a_mcommands m_changes m_thrown m_errorAt m_failedAt m_answer m_isSaved m_lined m_taped m_here m_commandMany, kAr g a_ms 130 m_s, kAr g a_mfar 8 m_far]) [.ref (a_mo 0), .int x1]) (gQv1 post (fun u1 => gB g (List.flatten [kMo g a_mo a_ms a_mwas a_mtried a_msaved a_mpast a_mfar a_mdrift a_mline a_mtape a_mcommands m_changes m_thrown m_errorAt m_failedAt m_answer m_isSaved m_lined m_taped m_here m_commandMany, kAr g a_ms 130 m_s, kAr g a_mfar 8 m_far]) sz (List.flatten [kMo g a_mo a_ms a_mwas a_mtried a_msaved a_mpast a_mfar a_mdrift a_mline a_mtape a_mcommands m_changes m_thrown m_errorAt m_failedAt m_answer m_isSaved m_lined m_taped m_here m_commandMany, kAr g a_ms 130 m_s, kAr g a_mfar 8 u1])) (va_A (List.flatten [kMo g a_mo a_ms a_mwas a_mtried a_msaved a_mpast a_mfar a_mdrift a_mline a_mtape a_mcommands m_changes m_thrown m_errorAt m_failedAt m_answer m_isSaved m_lined m_taped m_here m_commandMany, kAr g a_ms 130 m_s, kAr g a_mfar 8 m_far]) sz)) 0 0 (va_A (List.flatten [kMo g a_mo a_ms a_mwas a_mtried a_msaved a_mpast a_mfar a_mdrift a_mline a_mtape a_mcommands m_changes m_thrown m_errorAt m_failedAt m_answer m_isSaved m_lined m_taped m_here m_commandMany, kAr g a_ms 130 m_s, kAr g a_mfar 8 m_far]) sz) := by
  refine gOf (cc := cX7_finds) (maxL := 6) (ret := none) (by decide) rfl (Nat.le_of_ble_eq_true rfl) ?_
  intro p e s m below meth c ls Q A hQ hx hb hr hml hts hown hlocks hE hA0 hsz hP hD hA hS hl
  have hl : lv_has ls 6 [(0, .ref (a_mo 0)), (1, .int x1)] := hl
  have L34 : ∀ (n : Nat) (x2_34 : Int32) (m_far_34 : Nat → Int32) (H : Heap) (locs : List Loc) (ls : Array Slot), wpX7_finds_L34 m_s post n x2_34 m_far_34 → va_P g.1 vwCl (List.flatten [kMo g a_mo a_ms a_mwas a_mtried a_msaved a_mpast a_mfar a_mdrift a_mline a_mtape a_mcommands m_changes m_thrown m_errorAt m_failedAt m_answer m_isSaved m_lined m_taped m_here m_commandMany, kAr g a_ms 130 m_s, kAr g a_mfar 8 m_far_34]) H → va_D A (List.flatten [kMo g a_mo a_ms a_mwas a_mtried a_msaved a_mpast a_mfar a_mdrift a_mline a_mtape a_mcommands m_changes m_thrown m_errorAt m_failedAt m_answer m_isSaved m_lined m_taped m_here m_commandMany, kAr g a_ms 130 m_s, kAr g a_mfar 8 m_far_34]) → va_S A s.heap H locs → lv_has ls 6 [(0, .ref (a_mo 0)), (2, .int x2_34)] → W p l e rmX7_finds s m (([.ref (a_mo 0), .int x1] : List Value).toArray) below meth c H locs 0 0 Q (F0 m 34 ls []) := by
    intro n_34
    induction n_34 with
    | zero => intro x2_34 m_far_34 H locs ls hw; exact False.elim hw
    | succ n_34 ih_34 =>
      intro x2_34 m_far_34 H locs ls hw hP hD hS hl
      have L42 : ∀ (n : Nat) (x2_42 : Int32) (x3_42 : Int32) (m_far_42 : Nat → Int32) (H : Heap) (locs : List Loc) (ls : Array Slot), wpX7_finds_L42 m_s x2_42 (wpX7_finds_L34 m_s post n_34) post n x3_42 m_far_42 → va_P g.1 vwCl (List.flatten [kMo g a_mo a_ms a_mwas a_mtried a_msaved a_mpast a_mfar a_mdrift a_mline a_mtape a_mcommands m_changes m_thrown m_errorAt m_failedAt m_answer m_isSaved m_lined m_taped m_here m_commandMany, kAr g a_ms 130 m_s, kAr g a_mfar 8 m_far_42]) H → va_D A (List.flatten [kMo g a_mo a_ms a_mwas a_mtried a_msaved a_mpast a_mfar a_mdrift a_mline a_mtape a_mcommands m_changes m_thrown m_errorAt m_failedAt m_answer m_isSaved m_lined m_taped m_here m_commandMany, kAr g a_ms 130 m_s, kAr g a_mfar 8 m_far_42]) → va_S A s.heap H locs → lv_has ls 6 [(0, .ref (a_mo 0)), (2, .int x2_42), (3, .int x3_42)] → W p l e rmX7_finds s m (([.ref (a_mo 0), .int x1] : List Value).toArray) below meth c H locs 0 0 Q (F0 m 42 ls []) := by
        intro n_42
        induction n_42 with
        | zero => intro x2_42 x3_42 m_far_42 H locs ls hw; exact False.elim hw
        | succ n_42 ih_42 =>
          intro x2_42 x3_42 m_far_42 H locs ls hw hP hD hS hl
          refine lv_iload_n hx hb dX7_finds_42 rfl (lv_at hl 2 rfl) ?_
          refine lv_aload_n hx hb dX7_finds_43 rfl (lv_at hl 0 rfl) ?_
          refine va_get (D := g.1) (ci := 11) (v := .ref (a_ms 0)) (C := RX7) (T := TX7) (N := 20) hx hb hts inX7_finds_X7 hown hE.1 hP 0 rfl rfl 0 (by decide) (gW hts 2 (.fieldLink RX7 9 "SnowDispatcherModel" "s" "[I") rfl) (fun _ h9 => h9) rfl dX7_finds_44 ?_
          refine lv_iconst (v := 1) hx hb dX7_finds_47 (by decide) ?_
          have h1 := hw.1
          have hw := hw.2
          refine va_iald hx hb hE.1 hP 1 0 rfl rfl h1 dX7_finds_48 ?_
          refine lv_icmp_ge (tgt := 136) hx hb dX7_finds_49 (by decide) (fun c_49 => ?_) (fun c_49 => ?_)
          · have hw := hw.1 c_49
            refine lv_iinc (v := (x2_42 + 1)) (lv' := [(2, .int (x2_42 + 1)), (0, .ref (a_mo 0)), (3, .int x3_42)]) hx hb dX7_finds_136 hl (k := 1) rfl rfl (by decide) rfl (fun ls hl => ?_)
            refine lv_goto (tgt := 34) hx hb dX7_finds_139 (by decide) ?_
            exact ih_34 (x2_42 + 1) m_far_42 _ _ _ hw hP hD hS (lv_sub hl [1, 0] rfl)
          · have hw := hw.2 c_49
            refine lv_aload_n hx hb dX7_finds_52 rfl (lv_at hl 0 rfl) ?_
            refine lv_iload_n hx hb dX7_finds_53 rfl (lv_at hl 2 rfl) ?_
            refine lv_iconst (v := 0) hx hb dX7_finds_54 (by decide) ?_
            refine gCi0 (gRunV (As := [.int x3_42, .int 0]) (rest := []) ⟨hx, hb, hml, hown, hts⟩ (ctX7_of l g a_mo a_ms a_mwas a_mtried a_msaved a_mpast a_mfar a_mdrift a_mline a_mtape a_mcommands _ m_changes m_thrown m_errorAt m_failedAt m_answer m_isSaved m_lined m_taped m_here m_commandMany m_s x3_42 0 hw) (cwV 2 hts gX7_finds_X7_of rfl rfl rfl (by decide +kernel) ⟨Nat.le_of_ble_eq_true rfl, Nat.le_of_ble_eq_true rfl⟩) hE (gSub hP [0, 1]) (gDSub hD [0, 1] rfl) 0 11 rfl rfl rfl rfl rfl hl.1 rfl (lv_room (Nat.le_of_ble_eq_true rfl)) dX7_finds_55 ⟨Nat.le_of_ble_eq_true rfl, Nat.le_of_ble_eq_true rfl⟩) hP hD hS hA [0, 1] rfl rfl rfl (fun r2 H locs hw hP hD hS => ?_)
            have hP : va_P g.1 vwCl (List.flatten [kMo g a_mo a_ms a_mwas a_mtried a_msaved a_mpast a_mfar a_mdrift a_mline a_mtape a_mcommands m_changes m_thrown m_errorAt m_failedAt m_answer m_isSaved m_lined m_taped m_here m_commandMany, kAr g a_ms 130 m_s, kAr g a_mfar 8 m_far_42]) H := hP
            have hD : va_D A (List.flatten [kMo g a_mo a_ms a_mwas a_mtried a_msaved a_mpast a_mfar a_mdrift a_mline a_mtape a_mcommands m_changes m_thrown m_errorAt m_failedAt m_answer m_isSaved m_lined m_taped m_here m_commandMany, kAr g a_ms 130 m_s, kAr g a_mfar 8 m_far_42]) := hD
            refine lv_istore (lv' := [(4, .int r2), (0, .ref (a_mo 0)), (2, .int x2_42), (3, .int x3_42)]) hx hb dX7_finds_58 hl (by decide) rfl (fun ls hl => ?_)
            refine lv_aload_n hx hb dX7_finds_60 rfl (lv_at hl 1 rfl) ?_
            refine lv_iload_n hx hb dX7_finds_61 rfl (lv_at hl 3 rfl) ?_
            refine lv_iconst (v := 1) hx hb dX7_finds_62 (by decide) ?_
            refine gCi0 (gRunV (As := [.int x3_42, .int 1]) (rest := []) ⟨hx, hb, hml, hown, hts⟩ (ctX7_of l g a_mo a_ms a_mwas a_mtried a_msaved a_mpast a_mfar a_mdrift a_mline a_mtape a_mcommands _ m_changes m_thrown m_errorAt m_failedAt m_answer m_isSaved m_lined m_taped m_here m_commandMany m_s x3_42 1 hw) (cwV 2 hts gX7_finds_X7_of rfl rfl rfl (by decide +kernel) ⟨Nat.le_of_ble_eq_true rfl, Nat.le_of_ble_eq_true rfl⟩) hE (gSub hP [0, 1]) (gDSub hD [0, 1] rfl) 0 11 rfl rfl rfl rfl rfl hl.1 rfl (lv_room (Nat.le_of_ble_eq_true rfl)) dX7_finds_63 ⟨Nat.le_of_ble_eq_true rfl, Nat.le_of_ble_eq_true rfl⟩) hP hD hS hA [0, 1] rfl rfl rfl (fun r3 H locs hw hP hD hS => ?_)
            have hP : va_P g.1 vwCl (List.flatten [kMo g a_mo a_ms a_mwas a_mtried a_msaved a_mpast a_mfar a_mdrift a_mline a_mtape a_mcommands m_changes m_thrown m_errorAt m_failedAt m_answer m_isSaved m_lined m_taped m_here m_commandMany, kAr g a_ms 130 m_s, kAr g a_mfar 8 m_far_42]) H := hP
            have hD : va_D A (List.flatten [kMo g a_mo a_ms a_mwas a_mtried a_msaved a_mpast a_mfar a_mdrift a_mline a_mtape a_mcommands m_changes m_thrown m_errorAt m_failedAt m_answer m_isSaved m_lined m_taped m_here m_commandMany, kAr g a_ms 130 m_s, kAr g a_mfar 8 m_far_42]) := hD
            refine lv_istore (lv' := [(5, .int r3), (4, .int r2), (0, .ref (a_mo 0)), (2, .int x2_42), (3, .int x3_42)]) hx hb dX7_finds_66 hl (by decide) rfl (fun ls hl => ?_)
            refine lv_aload_n hx hb dX7_finds_68 rfl (lv_at hl 2 rfl) ?_
            refine va_get (D := g.1) (ci := 11) (v := .ref (a_mfar 0)) (C := RX7) (T := TX7) (N := 20) hx hb hts inX7_finds_X7 hown hE.1 hP 0 rfl rfl 5 (by decide) (gW hts 1 (.fieldLink RX7 25 "SnowDispatcherModel" "far" "[I") rfl) (fun _ h9 => h9) rfl dX7_finds_69 ?_
            refine lv_iload hx hb dX7_finds_72 (lv_at hl 0 rfl) ?_
            refine lv_aload_n hx hb dX7_finds_74 rfl (lv_at hl 2 rfl) ?_
            refine va_get (D := g.1) (ci := 11) (v := .ref (a_mfar 0)) (C := RX7) (T := TX7) (N := 20) hx hb hts inX7_finds_X7 hown hE.1 hP 0 rfl rfl 5 (by decide) (gW hts 1 (.fieldLink RX7 25 "SnowDispatcherModel" "far" "[I") rfl) (fun _ h9 => h9) rfl dX7_finds_75 ?_
            refine lv_iload hx hb dX7_finds_78 (lv_at hl 0 rfl) ?_
            have h4 := hw.1
            have hw := hw.2
            refine va_iald hx hb hE.1 hP 2 0 rfl rfl h4 dX7_finds_80 ?_
            refine lv_aload_n hx hb dX7_finds_81 rfl (lv_at hl 2 rfl) ?_
            refine va_get (D := g.1) (ci := 11) (v := .ref (a_mfar 0)) (C := RX7) (T := TX7) (N := 20) hx hb hts inX7_finds_X7 hown hE.1 hP 0 rfl rfl 5 (by decide) (gW hts 1 (.fieldLink RX7 25 "SnowDispatcherModel" "far" "[I") rfl) (fun _ h9 => h9) rfl dX7_finds_82 ?_
            refine lv_iload hx hb dX7_finds_85 (lv_at hl 1 rfl) ?_
            have h5 := hw.1
            have hw := hw.2
            refine va_iald hx hb hE.1 hP 2 0 rfl rfl h5 dX7_finds_87 ?_
            refine lv_aload_n hx hb dX7_finds_88 rfl (lv_at hl 2 rfl) ?_
            refine lv_iload_n hx hb dX7_finds_89 rfl (lv_at hl 4 rfl) ?_
            refine lv_iconst (v := 3) hx hb dX7_finds_90 (by decide) ?_
            refine gCi0 (gRunV (As := [.int x3_42, .int 3]) (rest := [.int (m_far_42 r2.toNatClampNeg), .int (m_far_42 r3.toNatClampNeg), .int r3, .ref (a_mfar 0)]) ⟨hx, hb, hml, hown, hts⟩ (ctX7_of l g a_mo a_ms a_mwas a_mtried a_msaved a_mpast a_mfar a_mdrift a_mline a_mtape a_mcommands _ m_changes m_thrown m_errorAt m_failedAt m_answer m_isSaved m_lined m_taped m_here m_commandMany m_s x3_42 3 hw) (cwV 2 hts gX7_finds_X7_of rfl rfl rfl (by decide +kernel) ⟨Nat.le_of_ble_eq_true rfl, Nat.le_of_ble_eq_true rfl⟩) hE (gSub hP [0, 1]) (gDSub hD [0, 1] rfl) 0 11 rfl rfl rfl rfl rfl hl.1 rfl (lv_room (Nat.le_of_ble_eq_true rfl)) dX7_finds_91 ⟨Nat.le_of_ble_eq_true rfl, Nat.le_of_ble_eq_true rfl⟩) hP hD hS hA [0, 1] rfl rfl rfl (fun r6 H locs hw hP hD hS => ?_)
            have hP : va_P g.1 vwCl (List.flatten [kMo g a_mo a_ms a_mwas a_mtried a_msaved a_mpast a_mfar a_mdrift a_mline a_mtape a_mcommands m_changes m_thrown m_errorAt m_failedAt m_answer m_isSaved m_lined m_taped m_here m_commandMany, kAr g a_ms 130 m_s, kAr g a_mfar 8 m_far_42]) H := hP
            have hD : va_D A (List.flatten [kMo g a_mo a_ms a_mwas a_mtried a_msaved a_mpast a_mfar a_mdrift a_mline a_mtape a_mcommands m_changes m_thrown m_errorAt m_failedAt m_answer m_isSaved m_lined m_taped m_here m_commandMany, kAr g a_ms 130 m_s, kAr g a_mfar 8 m_far_42]) := hD
            refine lv_iadd hx hb dX7_finds_94 ?_
            refine gCi0 (gRunS (As := [.int (m_far_42 r3.toNatClampNeg), .int ((m_far_42 r2.toNatClampNeg) + r6)]) (rest := [.int r3, .ref (a_mfar 0)]) ⟨hx, hb, hml, hown, hts⟩ (ctX7_lesser l g _ (m_far_42 r3.toNatClampNeg) ((m_far_42 r2.toNatClampNeg) + r6) hw) (va_cwS 2 hts gX7_finds_X7_lesser rfl rfl rfl (by decide +kernel) ⟨Nat.le_of_ble_eq_true rfl, Nat.le_of_ble_eq_true rfl⟩) hE (gSub hP []) (gDSub hD [] rfl) rfl rfl hl.1 rfl (lv_room (Nat.le_of_ble_eq_true rfl)) dX7_finds_95 ⟨Nat.le_of_ble_eq_true rfl, Nat.le_of_ble_eq_true rfl⟩) hP hD hS hA [] rfl rfl rfl (fun r7 H locs hw hP hD hS => ?_)
            have hP : va_P g.1 vwCl (List.flatten [kMo g a_mo a_ms a_mwas a_mtried a_msaved a_mpast a_mfar a_mdrift a_mline a_mtape a_mcommands m_changes m_thrown m_errorAt m_failedAt m_answer m_isSaved m_lined m_taped m_here m_commandMany, kAr g a_ms 130 m_s, kAr g a_mfar 8 m_far_42]) H := hP
            have hD : va_D A (List.flatten [kMo g a_mo a_ms a_mwas a_mtried a_msaved a_mpast a_mfar a_mdrift a_mline a_mtape a_mcommands m_changes m_thrown m_errorAt m_failedAt m_answer m_isSaved m_lined m_taped m_here m_commandMany, kAr g a_ms 130 m_s, kAr g a_mfar 8 m_far_42]) := hD
            have h8 := hw.1
            have hw := hw.2
            refine va_iast hx hb hE.1 hP hD hS 2 0 rfl rfl h8 dX7_finds_98 (fun H locs hP hD hS => ?_)
            have hP : va_P g.1 vwCl (List.flatten [kMo g a_mo a_ms a_mwas a_mtried a_msaved a_mpast a_mfar a_mdrift a_mline a_mtape a_mcommands m_changes m_thrown m_errorAt m_failedAt m_answer m_isSaved m_lined m_taped m_here m_commandMany, kAr g a_ms 130 m_s, kAr g a_mfar 8 (upd m_far_42 r3.toNatClampNeg r7)]) H := hP
            have hD : va_D A (List.flatten [kMo g a_mo a_ms a_mwas a_mtried a_msaved a_mpast a_mfar a_mdrift a_mline a_mtape a_mcommands m_changes m_thrown m_errorAt m_failedAt m_answer m_isSaved m_lined m_taped m_here m_commandMany, kAr g a_ms 130 m_s, kAr g a_mfar 8 (upd m_far_42 r3.toNatClampNeg r7)]) := hD
            refine lv_aload_n hx hb dX7_finds_99 rfl (lv_at hl 2 rfl) ?_
            refine va_get (D := g.1) (ci := 11) (v := .ref (a_mfar 0)) (C := RX7) (T := TX7) (N := 20) hx hb hts inX7_finds_X7 hown hE.1 hP 0 rfl rfl 5 (by decide) (gW hts 1 (.fieldLink RX7 25 "SnowDispatcherModel" "far" "[I") rfl) (fun _ h9 => h9) rfl dX7_finds_100 ?_
            refine lv_iload hx hb dX7_finds_103 (lv_at hl 1 rfl) ?_
            refine lv_aload_n hx hb dX7_finds_105 rfl (lv_at hl 2 rfl) ?_
            refine va_get (D := g.1) (ci := 11) (v := .ref (a_mfar 0)) (C := RX7) (T := TX7) (N := 20) hx hb hts inX7_finds_X7 hown hE.1 hP 0 rfl rfl 5 (by decide) (gW hts 1 (.fieldLink RX7 25 "SnowDispatcherModel" "far" "[I") rfl) (fun _ h9 => h9) rfl dX7_finds_106 ?_
            refine lv_iload hx hb dX7_finds_109 (lv_at hl 1 rfl) ?_
            have h9 := hw.1
            have hw := hw.2
            refine va_iald hx hb hE.1 hP 2 0 rfl rfl h9 dX7_finds_111 ?_
            refine lv_aload_n hx hb dX7_finds_112 rfl (lv_at hl 2 rfl) ?_
            refine va_get (D := g.1) (ci := 11) (v := .ref (a_mfar 0)) (C := RX7) (T := TX7) (N := 20) hx hb hts inX7_finds_X7 hown hE.1 hP 0 rfl rfl 5 (by decide) (gW hts 1 (.fieldLink RX7 25 "SnowDispatcherModel" "far" "[I") rfl) (fun _ h9 => h9) rfl dX7_finds_113 ?_
            refine lv_iload hx hb dX7_finds_116 (lv_at hl 0 rfl) ?_
            have h10 := hw.1
            have hw := hw.2
            refine va_iald hx hb hE.1 hP 2 0 rfl rfl h10 dX7_finds_118 ?_
            refine lv_aload_n hx hb dX7_finds_119 rfl (lv_at hl 2 rfl) ?_
            refine lv_iload_n hx hb dX7_finds_120 rfl (lv_at hl 4 rfl) ?_
            refine lv_iconst (v := 3) hx hb dX7_finds_121 (by decide) ?_
            refine gCi0 (gRunV (As := [.int x3_42, .int 3]) (rest := [.int ((upd m_far_42 r3.toNatClampNeg r7) r3.toNatClampNeg), .int ((upd m_far_42 r3.toNatClampNeg r7) r2.toNatClampNeg), .int r2, .ref (a_mfar 0)]) ⟨hx, hb, hml, hown, hts⟩ (ctX7_of l g a_mo a_ms a_mwas a_mtried a_msaved a_mpast a_mfar a_mdrift a_mline a_mtape a_mcommands _ m_changes m_thrown m_errorAt m_failedAt m_answer m_isSaved m_lined m_taped m_here m_commandMany m_s x3_42 3 hw) (cwV 2 hts gX7_finds_X7_of rfl rfl rfl (by decide +kernel) ⟨Nat.le_of_ble_eq_true rfl, Nat.le_of_ble_eq_true rfl⟩) hE (gSub hP [0, 1]) (gDSub hD [0, 1] rfl) 0 11 rfl rfl rfl rfl rfl hl.1 rfl (lv_room (Nat.le_of_ble_eq_true rfl)) dX7_finds_122 ⟨Nat.le_of_ble_eq_true rfl, Nat.le_of_ble_eq_true rfl⟩) hP hD hS hA [0, 1] rfl rfl rfl (fun r11 H locs hw hP hD hS => ?_)
            have hP : va_P g.1 vwCl (List.flatten [kMo g a_mo a_ms a_mwas a_mtried a_msaved a_mpast a_mfar a_mdrift a_mline a_mtape a_mcommands m_changes m_thrown m_errorAt m_failedAt m_answer m_isSaved m_lined m_taped m_here m_commandMany, kAr g a_ms 130 m_s, kAr g a_mfar 8 (upd m_far_42 r3.toNatClampNeg r7)]) H := hP
            have hD : va_D A (List.flatten [kMo g a_mo a_ms a_mwas a_mtried a_msaved a_mpast a_mfar a_mdrift a_mline a_mtape a_mcommands m_changes m_thrown m_errorAt m_failedAt m_answer m_isSaved m_lined m_taped m_here m_commandMany, kAr g a_ms 130 m_s, kAr g a_mfar 8 (upd m_far_42 r3.toNatClampNeg r7)]) := hD
            refine lv_iadd hx hb dX7_finds_125 ?_
            refine gCi0 (gRunS (As := [.int ((upd m_far_42 r3.toNatClampNeg r7) r2.toNatClampNeg), .int (((upd m_far_42 r3.toNatClampNeg r7) r3.toNatClampNeg) + r11)]) (rest := [.int r2, .ref (a_mfar 0)]) ⟨hx, hb, hml, hown, hts⟩ (ctX7_lesser l g _ ((upd m_far_42 r3.toNatClampNeg r7) r2.toNatClampNeg) (((upd m_far_42 r3.toNatClampNeg r7) r3.toNatClampNeg) + r11) hw) (va_cwS 2 hts gX7_finds_X7_lesser rfl rfl rfl (by decide +kernel) ⟨Nat.le_of_ble_eq_true rfl, Nat.le_of_ble_eq_true rfl⟩) hE (gSub hP []) (gDSub hD [] rfl) rfl rfl hl.1 rfl (lv_room (Nat.le_of_ble_eq_true rfl)) dX7_finds_126 ⟨Nat.le_of_ble_eq_true rfl, Nat.le_of_ble_eq_true rfl⟩) hP hD hS hA [] rfl rfl rfl (fun r12 H locs hw hP hD hS => ?_)
            have hP : va_P g.1 vwCl (List.flatten [kMo g a_mo a_ms a_mwas a_mtried a_msaved a_mpast a_mfar a_mdrift a_mline a_mtape a_mcommands m_changes m_thrown m_errorAt m_failedAt m_answer m_isSaved m_lined m_taped m_here m_commandMany, kAr g a_ms 130 m_s, kAr g a_mfar 8 (upd m_far_42 r3.toNatClampNeg r7)]) H := hP
            have hD : va_D A (List.flatten [kMo g a_mo a_ms a_mwas a_mtried a_msaved a_mpast a_mfar a_mdrift a_mline a_mtape a_mcommands m_changes m_thrown m_errorAt m_failedAt m_answer m_isSaved m_lined m_taped m_here m_commandMany, kAr g a_ms 130 m_s, kAr g a_mfar 8 (upd m_far_42 r3.toNatClampNeg r7)]) := hD
            have h13 := hw.1
            have hw := hw.2
            refine va_iast hx hb hE.1 hP hD hS 2 0 rfl rfl h13 dX7_finds_129 (fun H locs hP hD hS => ?_)
            have hP : va_P g.1 vwCl (List.flatten [kMo g a_mo a_ms a_mwas a_mtried a_msaved a_mpast a_mfar a_mdrift a_mline a_mtape a_mcommands m_changes m_thrown m_errorAt m_failedAt m_answer m_isSaved m_lined m_taped m_here m_commandMany, kAr g a_ms 130 m_s, kAr g a_mfar 8 (upd (upd m_far_42 r3.toNatClampNeg r7) r2.toNatClampNeg r12)]) H := hP
            have hD : va_D A (List.flatten [kMo g a_mo a_ms a_mwas a_mtried a_msaved a_mpast a_mfar a_mdrift a_mline a_mtape a_mcommands m_changes m_thrown m_errorAt m_failedAt m_answer m_isSaved m_lined m_taped m_here m_commandMany, kAr g a_ms 130 m_s, kAr g a_mfar 8 (upd (upd m_far_42 r3.toNatClampNeg r7) r2.toNatClampNeg r12)]) := hD
            refine lv_iinc (v := (x3_42 + 1)) (lv' := [(3, .int (x3_42 + 1)), (5, .int r3), (4, .int r2), (0, .ref (a_mo 0)), (2, .int x2_42)]) hx hb dX7_finds_130 hl (k := 4) rfl rfl (by decide) rfl (fun ls hl => ?_)
            refine lv_goto (tgt := 42) hx hb dX7_finds_133 (by decide) ?_
            exact ih_42 x2_42 (x3_42 + 1) (upd (upd m_far_42 r3.toNatClampNeg r7) r2.toNatClampNeg r12) _ _ _ hw hP hD hS (lv_sub hl [3, 4, 0] rfl)
      refine lv_iload_n hx hb dX7_finds_34 rfl (lv_at hl 1 rfl) ?_
      refine lv_bipush (v := 8) hx hb dX7_finds_35 (by decide) ?_
      refine lv_icmp_ge (tgt := 142) hx hb dX7_finds_37 (by decide) (fun c_37 => ?_) (fun c_37 => ?_)
      · have hw := hw.1 c_37
        subst hQ
        exact W.vret hx hb hr (gRv1 (c1 := m_far_34) (wf := _) hA0 hsz hw hP hD hS) hS.2.2 dX7_finds_142
      · have hw := hw.2 c_37
        refine lv_iconst (v := 0) hx hb dX7_finds_40 (by decide) ?_
        refine lv_istore_n (lv' := [(3, .int 0), (0, .ref (a_mo 0)), (2, .int x2_34)]) hx hb dX7_finds_41 rfl hl (by decide) rfl (fun ls hl => ?_)
        obtain ⟨n, hw⟩ := hw
        exact L42 n x2_34 0 m_far_34 _ _ _ hw hP hD hS (lv_sub hl [1, 2, 0] rfl)
  have L2 : ∀ (n : Nat) (x2_2 : Int32) (m_far_2 : Nat → Int32) (H : Heap) (locs : List Loc) (ls : Array Slot), wpX7_finds_L2 x1 m_s post n x2_2 m_far_2 → va_P g.1 vwCl (List.flatten [kMo g a_mo a_ms a_mwas a_mtried a_msaved a_mpast a_mfar a_mdrift a_mline a_mtape a_mcommands m_changes m_thrown m_errorAt m_failedAt m_answer m_isSaved m_lined m_taped m_here m_commandMany, kAr g a_ms 130 m_s, kAr g a_mfar 8 m_far_2]) H → va_D A (List.flatten [kMo g a_mo a_ms a_mwas a_mtried a_msaved a_mpast a_mfar a_mdrift a_mline a_mtape a_mcommands m_changes m_thrown m_errorAt m_failedAt m_answer m_isSaved m_lined m_taped m_here m_commandMany, kAr g a_ms 130 m_s, kAr g a_mfar 8 m_far_2]) → va_S A s.heap H locs → lv_has ls 6 [(0, .ref (a_mo 0)), (1, .int x1), (2, .int x2_2)] → W p l e rmX7_finds s m (([.ref (a_mo 0), .int x1] : List Value).toArray) below meth c H locs 0 0 Q (F0 m 2 ls []) := by
    intro n_2
    induction n_2 with
    | zero => intro x2_2 m_far_2 H locs ls hw; exact False.elim hw
    | succ n_2 ih_2 =>
      intro x2_2 m_far_2 H locs ls hw hP hD hS hl
      refine lv_iload_n hx hb dX7_finds_2 rfl (lv_at hl 2 rfl) ?_
      refine lv_bipush (v := 8) hx hb dX7_finds_3 (by decide) ?_
      refine lv_icmp_ge (tgt := 32) hx hb dX7_finds_5 (by decide) (fun c_5 => ?_) (fun c_5 => ?_)
      · have hw := hw.1 c_5
        refine lv_iconst (v := 1) hx hb dX7_finds_32 (by decide) ?_
        refine lv_istore_n (lv' := [(2, .int 1), (0, .ref (a_mo 0)), (1, .int x1)]) hx hb dX7_finds_33 rfl hl (by decide) rfl (fun ls hl => ?_)
        obtain ⟨n, hw⟩ := hw
        exact L34 n 1 m_far_2 _ _ _ hw hP hD hS (lv_sub hl [1, 0] rfl)
      · have hw := hw.2 c_5
        refine lv_aload_n hx hb dX7_finds_8 rfl (lv_at hl 0 rfl) ?_
        refine va_get (D := g.1) (ci := 11) (v := .ref (a_mfar 0)) (C := RX7) (T := TX7) (N := 20) hx hb hts inX7_finds_X7 hown hE.1 hP 0 rfl rfl 5 (by decide) (gW hts 1 (.fieldLink RX7 25 "SnowDispatcherModel" "far" "[I") rfl) (fun _ h9 => h9) rfl dX7_finds_9 ?_
        refine lv_iload_n hx hb dX7_finds_12 rfl (lv_at hl 2 rfl) ?_
        refine lv_iload_n hx hb dX7_finds_13 rfl (lv_at hl 2 rfl) ?_
        refine lv_iload_n hx hb dX7_finds_14 rfl (lv_at hl 1 rfl) ?_
        refine lv_icmp_ne (tgt := 22) hx hb dX7_finds_15 (by decide) (fun c_15 => ?_) (fun c_15 => ?_)
        · have hw := hw.1 c_15
          refine lv_sipush (v := 9999) hx hb dX7_finds_22 (by decide) ?_
          have h14 := hw.1
          have hw := hw.2
          refine va_iast hx hb hE.1 hP hD hS 2 0 rfl rfl h14 dX7_finds_25 (fun H locs hP hD hS => ?_)
          have hP : va_P g.1 vwCl (List.flatten [kMo g a_mo a_ms a_mwas a_mtried a_msaved a_mpast a_mfar a_mdrift a_mline a_mtape a_mcommands m_changes m_thrown m_errorAt m_failedAt m_answer m_isSaved m_lined m_taped m_here m_commandMany, kAr g a_ms 130 m_s, kAr g a_mfar 8 (upd m_far_2 x2_2.toNatClampNeg 9999)]) H := hP
          have hD : va_D A (List.flatten [kMo g a_mo a_ms a_mwas a_mtried a_msaved a_mpast a_mfar a_mdrift a_mline a_mtape a_mcommands m_changes m_thrown m_errorAt m_failedAt m_answer m_isSaved m_lined m_taped m_here m_commandMany, kAr g a_ms 130 m_s, kAr g a_mfar 8 (upd m_far_2 x2_2.toNatClampNeg 9999)]) := hD
          refine lv_iinc (v := (x2_2 + 1)) (lv' := [(2, .int (x2_2 + 1)), (0, .ref (a_mo 0)), (1, .int x1)]) hx hb dX7_finds_26 hl (k := 2) rfl rfl (by decide) rfl (fun ls hl => ?_)
          refine lv_goto (tgt := 2) hx hb dX7_finds_29 (by decide) ?_
          exact ih_2 (x2_2 + 1) (upd m_far_2 x2_2.toNatClampNeg 9999) _ _ _ hw hP hD hS (lv_sub hl [1, 2, 0] rfl)
        · have hw := hw.2 c_15
          refine lv_iconst (v := 0) hx hb dX7_finds_18 (by decide) ?_
          refine lv_goto (tgt := 25) hx hb dX7_finds_19 (by decide) ?_
          have h15 := hw.1
          have hw := hw.2
          refine va_iast hx hb hE.1 hP hD hS 2 0 rfl rfl h15 dX7_finds_25 (fun H locs hP hD hS => ?_)
          have hP : va_P g.1 vwCl (List.flatten [kMo g a_mo a_ms a_mwas a_mtried a_msaved a_mpast a_mfar a_mdrift a_mline a_mtape a_mcommands m_changes m_thrown m_errorAt m_failedAt m_answer m_isSaved m_lined m_taped m_here m_commandMany, kAr g a_ms 130 m_s, kAr g a_mfar 8 (upd m_far_2 x2_2.toNatClampNeg 0)]) H := hP
          have hD : va_D A (List.flatten [kMo g a_mo a_ms a_mwas a_mtried a_msaved a_mpast a_mfar a_mdrift a_mline a_mtape a_mcommands m_changes m_thrown m_errorAt m_failedAt m_answer m_isSaved m_lined m_taped m_here m_commandMany, kAr g a_ms 130 m_s, kAr g a_mfar 8 (upd m_far_2 x2_2.toNatClampNeg 0)]) := hD
          refine lv_iinc (v := (x2_2 + 1)) (lv' := [(2, .int (x2_2 + 1)), (0, .ref (a_mo 0)), (1, .int x1)]) hx hb dX7_finds_26 hl (k := 2) rfl rfl (by decide) rfl (fun ls hl => ?_)
          refine lv_goto (tgt := 2) hx hb dX7_finds_29 (by decide) ?_
          exact ih_2 (x2_2 + 1) (upd m_far_2 x2_2.toNatClampNeg 0) _ _ _ hw hP hD hS (lv_sub hl [1, 2, 0] rfl)
  refine lv_iconst (v := 0) hx hb dX7_finds_0 (by decide) ?_
  refine lv_istore_n (lv' := [(2, .int 0), (0, .ref (a_mo 0)), (1, .int x1)]) hx hb dX7_finds_1 rfl hl (by decide) rfl (fun ls hl => ?_)
  obtain ⟨n, hw⟩ := hw
  exact L2 n 0 m_far _ _ _ hw hP hD hS (lv_sub hl [1, 2, 0] rfl)
abbrev rmX7_minutes : Room := { frames := 3, cells := 0, slots := 0, locals := 149 }
set_option maxRecDepth 20000 in
theorem inX7_minutes_X7 : ∀ w ∈ wsX70, w ∈ wsX7_minutes := by decide +kernel
set_option maxHeartbeats 4000000 in
set_option maxRecDepth 100000 in
theorem ctX7_minutes (l : Launch) (g : GG) (a_mo : Nat → Nat) (a_ms : Nat → Nat) (a_mwas : Nat → Nat) (a_mtried : Nat → Nat) (a_msaved : Nat → Nat) (a_mpast : Nat → Nat) (a_mfar : Nat → Nat) (a_mdrift : Nat → Nat) (a_mline : Nat → Nat) (a_mtape : Nat → Nat) (a_mcommands : Nat → Nat) (sz : Nat) (m_changes : Int32) (m_thrown : Int32) (m_errorAt : Int32) (m_failedAt : Int32) (m_answer : Int32) (m_isSaved : Int32) (m_lined : Int32) (m_taped : Int32) (m_here : Int32) (m_commandMany : Int32) (m_s : Nat → Int32) (m_far : Nat → Int32) (x1 : Int32) (x2 : Int32) {post : Int32 → (Nat → Int32) → Prop} (hw : wpX7_minutes x1 x2 m_s m_far post) :
    Met l yX7_minutes wsX7_minutes rmX7_minutes (gPc g sz (List.flatten [kMo g a_mo a_ms a_mwas a_mtried a_msaved a_mpast a_mfar a_mdrift a_mline a_mtape a_mcommands m_changes m_thrown m_errorAt m_failedAt m_answer m_isSaved m_lined m_taped m_here m_commandMany, kAr g a_ms 130 m_s, kAr g a_mfar 8 m_far]) [.ref (a_mo 0), .int x1, .int x2]) (gQi1 post (fun u1 => gB g (List.flatten [kMo g a_mo a_ms a_mwas a_mtried a_msaved a_mpast a_mfar a_mdrift a_mline a_mtape a_mcommands m_changes m_thrown m_errorAt m_failedAt m_answer m_isSaved m_lined m_taped m_here m_commandMany, kAr g a_ms 130 m_s, kAr g a_mfar 8 m_far]) sz (List.flatten [kMo g a_mo a_ms a_mwas a_mtried a_msaved a_mpast a_mfar a_mdrift a_mline a_mtape a_mcommands m_changes m_thrown m_errorAt m_failedAt m_answer m_isSaved m_lined m_taped m_here m_commandMany, kAr g a_ms 130 m_s, kAr g a_mfar 8 u1])) (va_A (List.flatten [kMo g a_mo a_ms a_mwas a_mtried a_msaved a_mpast a_mfar a_mdrift a_mline a_mtape a_mcommands m_changes m_thrown m_errorAt m_failedAt m_answer m_isSaved m_lined m_taped m_here m_commandMany, kAr g a_ms 130 m_s, kAr g a_mfar 8 m_far]) sz)) 0 0 (va_A (List.flatten [kMo g a_mo a_ms a_mwas a_mtried a_msaved a_mpast a_mfar a_mdrift a_mline a_mtape a_mcommands m_changes m_thrown m_errorAt m_failedAt m_answer m_isSaved m_lined m_taped m_here m_commandMany, kAr g a_ms 130 m_s, kAr g a_mfar 8 m_far]) sz) := by
  refine gOf (cc := cX7_minutes) (maxL := 4) (ret := (some .int)) (by decide) rfl (Nat.le_of_ble_eq_true rfl) ?_
  intro p e s m below meth c ls Q A hQ hx hb hr hml hts hown hlocks hE hA0 hsz hP hD hA hS hl
  have hl : lv_has ls 4 [(0, .ref (a_mo 0)), (1, .int x1), (2, .int x2)] := hl
  refine lv_aload_n hx hb dX7_minutes_0 rfl (lv_at hl 0 rfl) ?_
  refine lv_iload_n hx hb dX7_minutes_1 rfl (lv_at hl 1 rfl) ?_
  refine gCv1 (gRunV (As := [.int x1]) (rest := []) ⟨hx, hb, hml, hown, hts⟩ (ctX7_finds l g a_mo a_ms a_mwas a_mtried a_msaved a_mpast a_mfar a_mdrift a_mline a_mtape a_mcommands _ m_changes m_thrown m_errorAt m_failedAt m_answer m_isSaved m_lined m_taped m_here m_commandMany m_s m_far x1 hw) (cwV 1 hts gX7_minutes_X7_finds rfl rfl rfl (by decide +kernel) ⟨Nat.le_of_ble_eq_true rfl, Nat.le_of_ble_eq_true rfl⟩) hE (gSub hP [0, 1, 2]) (gDSub hD [0, 1, 2] rfl) 0 11 rfl rfl rfl rfl rfl hl.1 rfl (lv_room (Nat.le_of_ble_eq_true rfl)) dX7_minutes_2 ⟨Nat.le_of_ble_eq_true rfl, Nat.le_of_ble_eq_true rfl⟩) hP hD hS hA [0, 1, 2] rfl (fun _ => rfl) rfl (fun m_far_v1 H locs hw hP hD hS => ?_)
  have hP : va_P g.1 vwCl (List.flatten [kMo g a_mo a_ms a_mwas a_mtried a_msaved a_mpast a_mfar a_mdrift a_mline a_mtape a_mcommands m_changes m_thrown m_errorAt m_failedAt m_answer m_isSaved m_lined m_taped m_here m_commandMany, kAr g a_ms 130 m_s, kAr g a_mfar 8 m_far_v1]) H := hP
  have hD : va_D A (List.flatten [kMo g a_mo a_ms a_mwas a_mtried a_msaved a_mpast a_mfar a_mdrift a_mline a_mtape a_mcommands m_changes m_thrown m_errorAt m_failedAt m_answer m_isSaved m_lined m_taped m_here m_commandMany, kAr g a_ms 130 m_s, kAr g a_mfar 8 m_far_v1]) := hD
  refine lv_aload_n hx hb dX7_minutes_5 rfl (lv_at hl 0 rfl) ?_
  refine va_get (D := g.1) (ci := 11) (v := .ref (a_mfar 0)) (C := RX7) (T := TX7) (N := 20) hx hb hts inX7_minutes_X7 hown hE.1 hP 0 rfl rfl 5 (by decide) (gW hts 1 (.fieldLink RX7 25 "SnowDispatcherModel" "far" "[I") rfl) (fun _ h9 => h9) rfl dX7_minutes_6 ?_
  refine lv_aload_n hx hb dX7_minutes_9 rfl (lv_at hl 0 rfl) ?_
  refine lv_iload_n hx hb dX7_minutes_10 rfl (lv_at hl 2 rfl) ?_
  refine lv_iconst (v := 0) hx hb dX7_minutes_11 (by decide) ?_
  refine gCi0 (gRunV (As := [.int x2, .int 0]) (rest := [.ref (a_mfar 0)]) ⟨hx, hb, hml, hown, hts⟩ (ctX7_of l g a_mo a_ms a_mwas a_mtried a_msaved a_mpast a_mfar a_mdrift a_mline a_mtape a_mcommands _ m_changes m_thrown m_errorAt m_failedAt m_answer m_isSaved m_lined m_taped m_here m_commandMany m_s x2 0 hw) (cwV 2 hts gX7_minutes_X7_of rfl rfl rfl (by decide +kernel) ⟨Nat.le_of_ble_eq_true rfl, Nat.le_of_ble_eq_true rfl⟩) hE (gSub hP [0, 1]) (gDSub hD [0, 1] rfl) 0 11 rfl rfl rfl rfl rfl hl.1 rfl (lv_room (Nat.le_of_ble_eq_true rfl)) dX7_minutes_12 ⟨Nat.le_of_ble_eq_true rfl, Nat.le_of_ble_eq_true rfl⟩) hP hD hS hA [0, 1] rfl rfl rfl (fun r2 H locs hw hP hD hS => ?_)
  have hP : va_P g.1 vwCl (List.flatten [kMo g a_mo a_ms a_mwas a_mtried a_msaved a_mpast a_mfar a_mdrift a_mline a_mtape a_mcommands m_changes m_thrown m_errorAt m_failedAt m_answer m_isSaved m_lined m_taped m_here m_commandMany, kAr g a_ms 130 m_s, kAr g a_mfar 8 m_far_v1]) H := hP
  have hD : va_D A (List.flatten [kMo g a_mo a_ms a_mwas a_mtried a_msaved a_mpast a_mfar a_mdrift a_mline a_mtape a_mcommands m_changes m_thrown m_errorAt m_failedAt m_answer m_isSaved m_lined m_taped m_here m_commandMany, kAr g a_ms 130 m_s, kAr g a_mfar 8 m_far_v1]) := hD
  have h3 := hw.1
  have hw := hw.2
  refine va_iald hx hb hE.1 hP 2 0 rfl rfl h3 dX7_minutes_15 ?_
  refine lv_aload_n hx hb dX7_minutes_16 rfl (lv_at hl 0 rfl) ?_
  refine va_get (D := g.1) (ci := 11) (v := .ref (a_mfar 0)) (C := RX7) (T := TX7) (N := 20) hx hb hts inX7_minutes_X7 hown hE.1 hP 0 rfl rfl 5 (by decide) (gW hts 1 (.fieldLink RX7 25 "SnowDispatcherModel" "far" "[I") rfl) (fun _ h9 => h9) rfl dX7_minutes_17 ?_
  refine lv_aload_n hx hb dX7_minutes_20 rfl (lv_at hl 0 rfl) ?_
  refine lv_iload_n hx hb dX7_minutes_21 rfl (lv_at hl 2 rfl) ?_
  refine lv_iconst (v := 1) hx hb dX7_minutes_22 (by decide) ?_
  refine gCi0 (gRunV (As := [.int x2, .int 1]) (rest := [.ref (a_mfar 0), .int (m_far_v1 r2.toNatClampNeg)]) ⟨hx, hb, hml, hown, hts⟩ (ctX7_of l g a_mo a_ms a_mwas a_mtried a_msaved a_mpast a_mfar a_mdrift a_mline a_mtape a_mcommands _ m_changes m_thrown m_errorAt m_failedAt m_answer m_isSaved m_lined m_taped m_here m_commandMany m_s x2 1 hw) (cwV 2 hts gX7_minutes_X7_of rfl rfl rfl (by decide +kernel) ⟨Nat.le_of_ble_eq_true rfl, Nat.le_of_ble_eq_true rfl⟩) hE (gSub hP [0, 1]) (gDSub hD [0, 1] rfl) 0 11 rfl rfl rfl rfl rfl hl.1 rfl (lv_room (Nat.le_of_ble_eq_true rfl)) dX7_minutes_23 ⟨Nat.le_of_ble_eq_true rfl, Nat.le_of_ble_eq_true rfl⟩) hP hD hS hA [0, 1] rfl rfl rfl (fun r4 H locs hw hP hD hS => ?_)
  have hP : va_P g.1 vwCl (List.flatten [kMo g a_mo a_ms a_mwas a_mtried a_msaved a_mpast a_mfar a_mdrift a_mline a_mtape a_mcommands m_changes m_thrown m_errorAt m_failedAt m_answer m_isSaved m_lined m_taped m_here m_commandMany, kAr g a_ms 130 m_s, kAr g a_mfar 8 m_far_v1]) H := hP
  have hD : va_D A (List.flatten [kMo g a_mo a_ms a_mwas a_mtried a_msaved a_mpast a_mfar a_mdrift a_mline a_mtape a_mcommands m_changes m_thrown m_errorAt m_failedAt m_answer m_isSaved m_lined m_taped m_here m_commandMany, kAr g a_ms 130 m_s, kAr g a_mfar 8 m_far_v1]) := hD
  have h5 := hw.1
  have hw := hw.2
  refine va_iald hx hb hE.1 hP 2 0 rfl rfl h5 dX7_minutes_26 ?_
  refine gCi0 (gRunS (As := [.int (m_far_v1 r2.toNatClampNeg), .int (m_far_v1 r4.toNatClampNeg)]) (rest := []) ⟨hx, hb, hml, hown, hts⟩ (ctX7_lesser l g _ (m_far_v1 r2.toNatClampNeg) (m_far_v1 r4.toNatClampNeg) hw) (va_cwS 2 hts gX7_minutes_X7_lesser rfl rfl rfl (by decide +kernel) ⟨Nat.le_of_ble_eq_true rfl, Nat.le_of_ble_eq_true rfl⟩) hE (gSub hP []) (gDSub hD [] rfl) rfl rfl hl.1 rfl (lv_room (Nat.le_of_ble_eq_true rfl)) dX7_minutes_27 ⟨Nat.le_of_ble_eq_true rfl, Nat.le_of_ble_eq_true rfl⟩) hP hD hS hA [] rfl rfl rfl (fun r6 H locs hw hP hD hS => ?_)
  have hP : va_P g.1 vwCl (List.flatten [kMo g a_mo a_ms a_mwas a_mtried a_msaved a_mpast a_mfar a_mdrift a_mline a_mtape a_mcommands m_changes m_thrown m_errorAt m_failedAt m_answer m_isSaved m_lined m_taped m_here m_commandMany, kAr g a_ms 130 m_s, kAr g a_mfar 8 m_far_v1]) H := hP
  have hD : va_D A (List.flatten [kMo g a_mo a_ms a_mwas a_mtried a_msaved a_mpast a_mfar a_mdrift a_mline a_mtape a_mcommands m_changes m_thrown m_errorAt m_failedAt m_answer m_isSaved m_lined m_taped m_here m_commandMany, kAr g a_ms 130 m_s, kAr g a_mfar 8 m_far_v1]) := hD
  refine lv_istore_n (lv' := [(3, .int r6), (0, .ref (a_mo 0)), (1, .int x1), (2, .int x2)]) hx hb dX7_minutes_30 rfl hl (by decide) rfl (fun ls hl => ?_)
  refine lv_iload_n hx hb dX7_minutes_31 rfl (lv_at hl 0 rfl) ?_
  refine lv_sipush (v := 9999) hx hb dX7_minutes_32 (by decide) ?_
  refine lv_icmp_lt (tgt := 42) hx hb dX7_minutes_35 (by decide) (fun c_35 => ?_) (fun c_35 => ?_)
  · have hw := hw.1 c_35
    refine lv_iconst (v := 2) hx hb dX7_minutes_42 (by decide) ?_
    refine lv_iload_n hx hb dX7_minutes_43 rfl (lv_at hl 0 rfl) ?_
    refine lv_imul hx hb dX7_minutes_44 ?_
    refine lv_iconst (v := 4) hx hb dX7_minutes_45 (by decide) ?_
    refine lv_aload_n hx hb dX7_minutes_46 rfl (lv_at hl 1 rfl) ?_
    refine lv_iload_n hx hb dX7_minutes_47 rfl (lv_at hl 3 rfl) ?_
    refine lv_iconst (v := 3) hx hb dX7_minutes_48 (by decide) ?_
    refine gCi0 (gRunV (As := [.int x2, .int 3]) (rest := [.int 4, .int (2 * r6)]) ⟨hx, hb, hml, hown, hts⟩ (ctX7_of l g a_mo a_ms a_mwas a_mtried a_msaved a_mpast a_mfar a_mdrift a_mline a_mtape a_mcommands _ m_changes m_thrown m_errorAt m_failedAt m_answer m_isSaved m_lined m_taped m_here m_commandMany m_s x2 3 hw) (cwV 2 hts gX7_minutes_X7_of rfl rfl rfl (by decide +kernel) ⟨Nat.le_of_ble_eq_true rfl, Nat.le_of_ble_eq_true rfl⟩) hE (gSub hP [0, 1]) (gDSub hD [0, 1] rfl) 0 11 rfl rfl rfl rfl rfl hl.1 rfl (lv_room (Nat.le_of_ble_eq_true rfl)) dX7_minutes_49 ⟨Nat.le_of_ble_eq_true rfl, Nat.le_of_ble_eq_true rfl⟩) hP hD hS hA [0, 1] rfl rfl rfl (fun r7 H locs hw hP hD hS => ?_)
    have hP : va_P g.1 vwCl (List.flatten [kMo g a_mo a_ms a_mwas a_mtried a_msaved a_mpast a_mfar a_mdrift a_mline a_mtape a_mcommands m_changes m_thrown m_errorAt m_failedAt m_answer m_isSaved m_lined m_taped m_here m_commandMany, kAr g a_ms 130 m_s, kAr g a_mfar 8 m_far_v1]) H := hP
    have hD : va_D A (List.flatten [kMo g a_mo a_ms a_mwas a_mtried a_msaved a_mpast a_mfar a_mdrift a_mline a_mtape a_mcommands m_changes m_thrown m_errorAt m_failedAt m_answer m_isSaved m_lined m_taped m_here m_commandMany, kAr g a_ms 130 m_s, kAr g a_mfar 8 m_far_v1]) := hD
    refine lv_imul hx hb dX7_minutes_52 ?_
    refine lv_iadd hx hb dX7_minutes_53 ?_
    subst hQ
    exact W.iret hx hb hr (gRi1 (c1 := m_far_v1) (wf := _) hA0 hsz hw hP hD hS) hS.2.2 dX7_minutes_54
  · have hw := hw.2 c_35
    refine lv_iconst (v := (-1)) hx hb dX7_minutes_38 (by decide) ?_
    refine lv_goto (tgt := 54) hx hb dX7_minutes_39 (by decide) ?_
    subst hQ
    exact W.iret hx hb hr (gRi1 (c1 := m_far_v1) (wf := _) hA0 hsz hw hP hD hS) hS.2.2 dX7_minutes_54
abbrev rmX7_takes : Room := { frames := 4, cells := 0, slots := 0, locals := 173 }
set_option maxRecDepth 20000 in
theorem inX7_takes_X7 : ∀ w ∈ wsX70, w ∈ wsX7_takes := by decide +kernel
set_option maxHeartbeats 4000000 in
set_option maxRecDepth 100000 in
theorem ctX7_takes (l : Launch) (g : GG) (a_mo : Nat → Nat) (a_ms : Nat → Nat) (a_mwas : Nat → Nat) (a_mtried : Nat → Nat) (a_msaved : Nat → Nat) (a_mpast : Nat → Nat) (a_mfar : Nat → Nat) (a_mdrift : Nat → Nat) (a_mline : Nat → Nat) (a_mtape : Nat → Nat) (a_mcommands : Nat → Nat) (sz : Nat) (m_changes : Int32) (m_thrown : Int32) (m_errorAt : Int32) (m_failedAt : Int32) (m_answer : Int32) (m_isSaved : Int32) (m_lined : Int32) (m_taped : Int32) (m_here : Int32) (m_commandMany : Int32) (m_s : Nat → Int32) (m_far : Nat → Int32) (x1 : Int32) {post : (Nat → Int32) → (Nat → Int32) → Prop} (hw : wpX7_takes x1 m_s m_far post) :
    Met l yX7_takes wsX7_takes rmX7_takes (gPc g sz (List.flatten [kMo g a_mo a_ms a_mwas a_mtried a_msaved a_mpast a_mfar a_mdrift a_mline a_mtape a_mcommands m_changes m_thrown m_errorAt m_failedAt m_answer m_isSaved m_lined m_taped m_here m_commandMany, kAr g a_ms 130 m_s, kAr g a_mfar 8 m_far]) [.ref (a_mo 0), .int x1]) (gQv2 post (fun u1 u2 => gB g (List.flatten [kMo g a_mo a_ms a_mwas a_mtried a_msaved a_mpast a_mfar a_mdrift a_mline a_mtape a_mcommands m_changes m_thrown m_errorAt m_failedAt m_answer m_isSaved m_lined m_taped m_here m_commandMany, kAr g a_ms 130 m_s, kAr g a_mfar 8 m_far]) sz (List.flatten [kMo g a_mo a_ms a_mwas a_mtried a_msaved a_mpast a_mfar a_mdrift a_mline a_mtape a_mcommands m_changes m_thrown m_errorAt m_failedAt m_answer m_isSaved m_lined m_taped m_here m_commandMany, kAr g a_ms 130 u1, kAr g a_mfar 8 u2])) (va_A (List.flatten [kMo g a_mo a_ms a_mwas a_mtried a_msaved a_mpast a_mfar a_mdrift a_mline a_mtape a_mcommands m_changes m_thrown m_errorAt m_failedAt m_answer m_isSaved m_lined m_taped m_here m_commandMany, kAr g a_ms 130 m_s, kAr g a_mfar 8 m_far]) sz)) 0 0 (va_A (List.flatten [kMo g a_mo a_ms a_mwas a_mtried a_msaved a_mpast a_mfar a_mdrift a_mline a_mtape a_mcommands m_changes m_thrown m_errorAt m_failedAt m_answer m_isSaved m_lined m_taped m_here m_commandMany, kAr g a_ms 130 m_s, kAr g a_mfar 8 m_far]) sz) := by
  refine gOf (cc := cX7_takes) (maxL := 6) (ret := none) (by decide) rfl (Nat.le_of_ble_eq_true rfl) ?_
  intro p e s m below meth c ls Q A hQ hx hb hr hml hts hown hlocks hE hA0 hsz hP hD hA hS hl
  have hl : lv_has ls 6 [(0, .ref (a_mo 0)), (1, .int x1)] := hl
  have J127 : ∀ (z0_127 : Int32) (x2_127 : Int32) (x4_127 : Int32) (m_s_127 : Nat → Int32) (m_far_127 : Nat → Int32) (H : Heap) (locs : List Loc) (ls : Array Slot), wpX7_takes_L127 x1 post z0_127 x2_127 x4_127 m_s_127 m_far_127 → va_P g.1 vwCl (List.flatten [kMo g a_mo a_ms a_mwas a_mtried a_msaved a_mpast a_mfar a_mdrift a_mline a_mtape a_mcommands m_changes m_thrown m_errorAt m_failedAt m_answer m_isSaved m_lined m_taped m_here m_commandMany, kAr g a_ms 130 m_s_127, kAr g a_mfar 8 m_far_127]) H → va_D A (List.flatten [kMo g a_mo a_ms a_mwas a_mtried a_msaved a_mpast a_mfar a_mdrift a_mline a_mtape a_mcommands m_changes m_thrown m_errorAt m_failedAt m_answer m_isSaved m_lined m_taped m_here m_commandMany, kAr g a_ms 130 m_s_127, kAr g a_mfar 8 m_far_127]) → va_S A s.heap H locs → lv_has ls 6 [(0, .ref (a_mo 0)), (1, .int x1), (2, .int x2_127), (4, .int x4_127)] → W p l e rmX7_takes s m (([.ref (a_mo 0), .int x1] : List Value).toArray) below meth c H locs 0 0 Q (F0 m 127 ls [.int z0_127]) := by
    intro z0_127 x2_127 x4_127 m_s_127 m_far_127 H locs ls hw hP hD hS hl
    refine lv_istore (lv' := [(5, .int z0_127), (0, .ref (a_mo 0)), (1, .int x1), (2, .int x2_127), (4, .int x4_127)]) hx hb dX7_takes_127 hl (by decide) rfl (fun ls hl => ?_)
    refine lv_aload_n hx hb dX7_takes_129 rfl (lv_at hl 1 rfl) ?_
    refine lv_iload_n hx hb dX7_takes_130 rfl (lv_at hl 2 rfl) ?_
    refine lv_iconst (v := 1) hx hb dX7_takes_131 (by decide) ?_
    refine lv_iload hx hb dX7_takes_132 (lv_at hl 4 rfl) ?_
    refine gCv1 (gRunV (As := [.int x1, .int 1, .int x4_127]) (rest := []) ⟨hx, hb, hml, hown, hts⟩ (ctX7_setsPlough l g a_mo a_ms a_mwas a_mtried a_msaved a_mpast a_mfar a_mdrift a_mline a_mtape a_mcommands _ m_changes m_thrown m_errorAt m_failedAt m_answer m_isSaved m_lined m_taped m_here m_commandMany m_s_127 x1 1 x4_127 hw) (cwV 3 hts gX7_takes_X7_setsPlough rfl rfl rfl (by decide +kernel) ⟨Nat.le_of_ble_eq_true rfl, Nat.le_of_ble_eq_true rfl⟩) hE (gSub hP [0, 1]) (gDSub hD [0, 1] rfl) 0 11 rfl rfl rfl rfl rfl hl.1 rfl (lv_room (Nat.le_of_ble_eq_true rfl)) dX7_takes_134 ⟨Nat.le_of_ble_eq_true rfl, Nat.le_of_ble_eq_true rfl⟩) hP hD hS hA [0, 1] rfl (fun _ => rfl) rfl (fun m_s_v11 H locs hw hP hD hS => ?_)
    have hP : va_P g.1 vwCl (List.flatten [kMo g a_mo a_ms a_mwas a_mtried a_msaved a_mpast a_mfar a_mdrift a_mline a_mtape a_mcommands m_changes m_thrown m_errorAt m_failedAt m_answer m_isSaved m_lined m_taped m_here m_commandMany, kAr g a_ms 130 m_s_v11, kAr g a_mfar 8 m_far_127]) H := hP
    have hD : va_D A (List.flatten [kMo g a_mo a_ms a_mwas a_mtried a_msaved a_mpast a_mfar a_mdrift a_mline a_mtape a_mcommands m_changes m_thrown m_errorAt m_failedAt m_answer m_isSaved m_lined m_taped m_here m_commandMany, kAr g a_ms 130 m_s_v11, kAr g a_mfar 8 m_far_127]) := hD
    refine lv_aload_n hx hb dX7_takes_137 rfl (lv_at hl 1 rfl) ?_
    refine lv_iload_n hx hb dX7_takes_138 rfl (lv_at hl 2 rfl) ?_
    refine lv_iconst (v := 2) hx hb dX7_takes_139 (by decide) ?_
    refine lv_iload_n hx hb dX7_takes_140 rfl (lv_at hl 3 rfl) ?_
    refine gCv1 (gRunV (As := [.int x1, .int 2, .int x2_127]) (rest := []) ⟨hx, hb, hml, hown, hts⟩ (ctX7_setsPlough l g a_mo a_ms a_mwas a_mtried a_msaved a_mpast a_mfar a_mdrift a_mline a_mtape a_mcommands _ m_changes m_thrown m_errorAt m_failedAt m_answer m_isSaved m_lined m_taped m_here m_commandMany m_s_v11 x1 2 x2_127 hw) (cwV 3 hts gX7_takes_X7_setsPlough rfl rfl rfl (by decide +kernel) ⟨Nat.le_of_ble_eq_true rfl, Nat.le_of_ble_eq_true rfl⟩) hE (gSub hP [0, 1]) (gDSub hD [0, 1] rfl) 0 11 rfl rfl rfl rfl rfl hl.1 rfl (lv_room (Nat.le_of_ble_eq_true rfl)) dX7_takes_141 ⟨Nat.le_of_ble_eq_true rfl, Nat.le_of_ble_eq_true rfl⟩) hP hD hS hA [0, 1] rfl (fun _ => rfl) rfl (fun m_s_v12 H locs hw hP hD hS => ?_)
    have hP : va_P g.1 vwCl (List.flatten [kMo g a_mo a_ms a_mwas a_mtried a_msaved a_mpast a_mfar a_mdrift a_mline a_mtape a_mcommands m_changes m_thrown m_errorAt m_failedAt m_answer m_isSaved m_lined m_taped m_here m_commandMany, kAr g a_ms 130 m_s_v12, kAr g a_mfar 8 m_far_127]) H := hP
    have hD : va_D A (List.flatten [kMo g a_mo a_ms a_mwas a_mtried a_msaved a_mpast a_mfar a_mdrift a_mline a_mtape a_mcommands m_changes m_thrown m_errorAt m_failedAt m_answer m_isSaved m_lined m_taped m_here m_commandMany, kAr g a_ms 130 m_s_v12, kAr g a_mfar 8 m_far_127]) := hD
    refine lv_aload_n hx hb dX7_takes_144 rfl (lv_at hl 1 rfl) ?_
    refine lv_iload_n hx hb dX7_takes_145 rfl (lv_at hl 2 rfl) ?_
    refine lv_iconst (v := 0) hx hb dX7_takes_146 (by decide) ?_
    refine lv_iload hx hb dX7_takes_147 (lv_at hl 0 rfl) ?_
    refine lv_if_eq (tgt := 161) hx hb dX7_takes_149 (by decide) (fun c_149 => ?_) (fun c_149 => ?_)
    · have hw := hw.1 c_149
      refine lv_aload_n hx hb dX7_takes_161 rfl (lv_at hl 1 rfl) ?_
      refine lv_iload_n hx hb dX7_takes_162 rfl (lv_at hl 3 rfl) ?_
      refine lv_iconst (v := 0) hx hb dX7_takes_163 (by decide) ?_
      refine gCi0 (gRunV (As := [.int x2_127, .int 0]) (rest := [.int 0, .int x1, .ref (a_mo 0)]) ⟨hx, hb, hml, hown, hts⟩ (ctX7_of l g a_mo a_ms a_mwas a_mtried a_msaved a_mpast a_mfar a_mdrift a_mline a_mtape a_mcommands _ m_changes m_thrown m_errorAt m_failedAt m_answer m_isSaved m_lined m_taped m_here m_commandMany m_s_v12 x2_127 0 hw) (cwV 2 hts gX7_takes_X7_of rfl rfl rfl (by decide +kernel) ⟨Nat.le_of_ble_eq_true rfl, Nat.le_of_ble_eq_true rfl⟩) hE (gSub hP [0, 1]) (gDSub hD [0, 1] rfl) 0 11 rfl rfl rfl rfl rfl hl.1 rfl (lv_room (Nat.le_of_ble_eq_true rfl)) dX7_takes_164 ⟨Nat.le_of_ble_eq_true rfl, Nat.le_of_ble_eq_true rfl⟩) hP hD hS hA [0, 1] rfl rfl rfl (fun r13 H locs hw hP hD hS => ?_)
      have hP : va_P g.1 vwCl (List.flatten [kMo g a_mo a_ms a_mwas a_mtried a_msaved a_mpast a_mfar a_mdrift a_mline a_mtape a_mcommands m_changes m_thrown m_errorAt m_failedAt m_answer m_isSaved m_lined m_taped m_here m_commandMany, kAr g a_ms 130 m_s_v12, kAr g a_mfar 8 m_far_127]) H := hP
      have hD : va_D A (List.flatten [kMo g a_mo a_ms a_mwas a_mtried a_msaved a_mpast a_mfar a_mdrift a_mline a_mtape a_mcommands m_changes m_thrown m_errorAt m_failedAt m_answer m_isSaved m_lined m_taped m_here m_commandMany, kAr g a_ms 130 m_s_v12, kAr g a_mfar 8 m_far_127]) := hD
      refine gCv1 (gRunV (As := [.int x1, .int 0, .int r13]) (rest := []) ⟨hx, hb, hml, hown, hts⟩ (ctX7_setsPlough l g a_mo a_ms a_mwas a_mtried a_msaved a_mpast a_mfar a_mdrift a_mline a_mtape a_mcommands _ m_changes m_thrown m_errorAt m_failedAt m_answer m_isSaved m_lined m_taped m_here m_commandMany m_s_v12 x1 0 r13 hw) (cwV 3 hts gX7_takes_X7_setsPlough rfl rfl rfl (by decide +kernel) ⟨Nat.le_of_ble_eq_true rfl, Nat.le_of_ble_eq_true rfl⟩) hE (gSub hP [0, 1]) (gDSub hD [0, 1] rfl) 0 11 rfl rfl rfl rfl rfl hl.1 rfl (lv_room (Nat.le_of_ble_eq_true rfl)) dX7_takes_167 ⟨Nat.le_of_ble_eq_true rfl, Nat.le_of_ble_eq_true rfl⟩) hP hD hS hA [0, 1] rfl (fun _ => rfl) rfl (fun m_s_v14 H locs hw hP hD hS => ?_)
      have hP : va_P g.1 vwCl (List.flatten [kMo g a_mo a_ms a_mwas a_mtried a_msaved a_mpast a_mfar a_mdrift a_mline a_mtape a_mcommands m_changes m_thrown m_errorAt m_failedAt m_answer m_isSaved m_lined m_taped m_here m_commandMany, kAr g a_ms 130 m_s_v14, kAr g a_mfar 8 m_far_127]) H := hP
      have hD : va_D A (List.flatten [kMo g a_mo a_ms a_mwas a_mtried a_msaved a_mpast a_mfar a_mdrift a_mline a_mtape a_mcommands m_changes m_thrown m_errorAt m_failedAt m_answer m_isSaved m_lined m_taped m_here m_commandMany, kAr g a_ms 130 m_s_v14, kAr g a_mfar 8 m_far_127]) := hD
      subst hQ
      exact W.vret hx hb hr (gRv2 (c1 := m_s_v14) (c2 := m_far_127) (wf := _) hA0 hsz hw hP hD hS) hS.2.2 dX7_takes_170
    · have hw := hw.2 c_149
      refine lv_aload_n hx hb dX7_takes_152 rfl (lv_at hl 1 rfl) ?_
      refine lv_iload_n hx hb dX7_takes_153 rfl (lv_at hl 3 rfl) ?_
      refine lv_iconst (v := 1) hx hb dX7_takes_154 (by decide) ?_
      refine gCi0 (gRunV (As := [.int x2_127, .int 1]) (rest := [.int 0, .int x1, .ref (a_mo 0)]) ⟨hx, hb, hml, hown, hts⟩ (ctX7_of l g a_mo a_ms a_mwas a_mtried a_msaved a_mpast a_mfar a_mdrift a_mline a_mtape a_mcommands _ m_changes m_thrown m_errorAt m_failedAt m_answer m_isSaved m_lined m_taped m_here m_commandMany m_s_v12 x2_127 1 hw) (cwV 2 hts gX7_takes_X7_of rfl rfl rfl (by decide +kernel) ⟨Nat.le_of_ble_eq_true rfl, Nat.le_of_ble_eq_true rfl⟩) hE (gSub hP [0, 1]) (gDSub hD [0, 1] rfl) 0 11 rfl rfl rfl rfl rfl hl.1 rfl (lv_room (Nat.le_of_ble_eq_true rfl)) dX7_takes_155 ⟨Nat.le_of_ble_eq_true rfl, Nat.le_of_ble_eq_true rfl⟩) hP hD hS hA [0, 1] rfl rfl rfl (fun r15 H locs hw hP hD hS => ?_)
      have hP : va_P g.1 vwCl (List.flatten [kMo g a_mo a_ms a_mwas a_mtried a_msaved a_mpast a_mfar a_mdrift a_mline a_mtape a_mcommands m_changes m_thrown m_errorAt m_failedAt m_answer m_isSaved m_lined m_taped m_here m_commandMany, kAr g a_ms 130 m_s_v12, kAr g a_mfar 8 m_far_127]) H := hP
      have hD : va_D A (List.flatten [kMo g a_mo a_ms a_mwas a_mtried a_msaved a_mpast a_mfar a_mdrift a_mline a_mtape a_mcommands m_changes m_thrown m_errorAt m_failedAt m_answer m_isSaved m_lined m_taped m_here m_commandMany, kAr g a_ms 130 m_s_v12, kAr g a_mfar 8 m_far_127]) := hD
      refine lv_goto (tgt := 167) hx hb dX7_takes_158 (by decide) ?_
      refine gCv1 (gRunV (As := [.int x1, .int 0, .int r15]) (rest := []) ⟨hx, hb, hml, hown, hts⟩ (ctX7_setsPlough l g a_mo a_ms a_mwas a_mtried a_msaved a_mpast a_mfar a_mdrift a_mline a_mtape a_mcommands _ m_changes m_thrown m_errorAt m_failedAt m_answer m_isSaved m_lined m_taped m_here m_commandMany m_s_v12 x1 0 r15 hw) (cwV 3 hts gX7_takes_X7_setsPlough rfl rfl rfl (by decide +kernel) ⟨Nat.le_of_ble_eq_true rfl, Nat.le_of_ble_eq_true rfl⟩) hE (gSub hP [0, 1]) (gDSub hD [0, 1] rfl) 0 11 rfl rfl rfl rfl rfl hl.1 rfl (lv_room (Nat.le_of_ble_eq_true rfl)) dX7_takes_167 ⟨Nat.le_of_ble_eq_true rfl, Nat.le_of_ble_eq_true rfl⟩) hP hD hS hA [0, 1] rfl (fun _ => rfl) rfl (fun m_s_v16 H locs hw hP hD hS => ?_)
      have hP : va_P g.1 vwCl (List.flatten [kMo g a_mo a_ms a_mwas a_mtried a_msaved a_mpast a_mfar a_mdrift a_mline a_mtape a_mcommands m_changes m_thrown m_errorAt m_failedAt m_answer m_isSaved m_lined m_taped m_here m_commandMany, kAr g a_ms 130 m_s_v16, kAr g a_mfar 8 m_far_127]) H := hP
      have hD : va_D A (List.flatten [kMo g a_mo a_ms a_mwas a_mtried a_msaved a_mpast a_mfar a_mdrift a_mline a_mtape a_mcommands m_changes m_thrown m_errorAt m_failedAt m_answer m_isSaved m_lined m_taped m_here m_commandMany, kAr g a_ms 130 m_s_v16, kAr g a_mfar 8 m_far_127]) := hD
      subst hQ
      exact W.vret hx hb hr (gRv2 (c1 := m_s_v16) (c2 := m_far_127) (wf := _) hA0 hsz hw hP hD hS) hS.2.2 dX7_takes_170
  have L19 : ∀ (n : Nat) (x2_19 : Int32) (x3_19 : Int32) (m_far_19 : Nat → Int32) (x4_19 : Int32) (m_s_19 : Nat → Int32) (H : Heap) (locs : List Loc) (ls : Array Slot), wpX7_takes_L19 x1 x2_19 x3_19 m_far_19 post n x4_19 m_s_19 → va_P g.1 vwCl (List.flatten [kMo g a_mo a_ms a_mwas a_mtried a_msaved a_mpast a_mfar a_mdrift a_mline a_mtape a_mcommands m_changes m_thrown m_errorAt m_failedAt m_answer m_isSaved m_lined m_taped m_here m_commandMany, kAr g a_ms 130 m_s_19, kAr g a_mfar 8 m_far_19]) H → va_D A (List.flatten [kMo g a_mo a_ms a_mwas a_mtried a_msaved a_mpast a_mfar a_mdrift a_mline a_mtape a_mcommands m_changes m_thrown m_errorAt m_failedAt m_answer m_isSaved m_lined m_taped m_here m_commandMany, kAr g a_ms 130 m_s_19, kAr g a_mfar 8 m_far_19]) → va_S A s.heap H locs → lv_has ls 6 [(0, .ref (a_mo 0)), (1, .int x1), (2, .int x2_19), (3, .int x3_19), (4, .int x4_19)] → W p l e rmX7_takes s m (([.ref (a_mo 0), .int x1] : List Value).toArray) below meth c H locs 0 0 Q (F0 m 19 ls []) := by
    intro n_19
    induction n_19 with
    | zero => intro x2_19 x3_19 m_far_19 x4_19 m_s_19 H locs ls hw; exact False.elim hw
    | succ n_19 ih_19 =>
      intro x2_19 x3_19 m_far_19 x4_19 m_s_19 H locs ls hw hP hD hS hl
      refine lv_iload hx hb dX7_takes_19 (lv_at hl 4 rfl) ?_
      refine lv_iload_n hx hb dX7_takes_21 rfl (lv_at hl 3 rfl) ?_
      refine lv_icmp_ge (tgt := 51) hx hb dX7_takes_22 (by decide) (fun c_22 => ?_) (fun c_22 => ?_)
      · have hw := hw.1 c_22
        refine lv_aload_n hx hb dX7_takes_51 rfl (lv_at hl 0 rfl) ?_
        refine lv_iload_n hx hb dX7_takes_52 rfl (lv_at hl 1 rfl) ?_
        refine lv_iconst (v := 4) hx hb dX7_takes_53 (by decide) ?_
        refine lv_iload_n hx hb dX7_takes_54 rfl (lv_at hl 3 rfl) ?_
        refine lv_iadd hx hb dX7_takes_55 ?_
        refine lv_iconst (v := 0) hx hb dX7_takes_56 (by decide) ?_
        refine gCv1 (gRunV (As := [.int x1, .int (4 + x3_19), .int 0]) (rest := []) ⟨hx, hb, hml, hown, hts⟩ (ctX7_setsPlough l g a_mo a_ms a_mwas a_mtried a_msaved a_mpast a_mfar a_mdrift a_mline a_mtape a_mcommands _ m_changes m_thrown m_errorAt m_failedAt m_answer m_isSaved m_lined m_taped m_here m_commandMany m_s_19 x1 (4 + x3_19) 0 hw) (cwV 3 hts gX7_takes_X7_setsPlough rfl rfl rfl (by decide +kernel) ⟨Nat.le_of_ble_eq_true rfl, Nat.le_of_ble_eq_true rfl⟩) hE (gSub hP [0, 1]) (gDSub hD [0, 1] rfl) 0 11 rfl rfl rfl rfl rfl hl.1 rfl (lv_room (Nat.le_of_ble_eq_true rfl)) dX7_takes_57 ⟨Nat.le_of_ble_eq_true rfl, Nat.le_of_ble_eq_true rfl⟩) hP hD hS hA [0, 1] rfl (fun _ => rfl) rfl (fun m_s_v3 H locs hw hP hD hS => ?_)
        have hP : va_P g.1 vwCl (List.flatten [kMo g a_mo a_ms a_mwas a_mtried a_msaved a_mpast a_mfar a_mdrift a_mline a_mtape a_mcommands m_changes m_thrown m_errorAt m_failedAt m_answer m_isSaved m_lined m_taped m_here m_commandMany, kAr g a_ms 130 m_s_v3, kAr g a_mfar 8 m_far_19]) H := hP
        have hD : va_D A (List.flatten [kMo g a_mo a_ms a_mwas a_mtried a_msaved a_mpast a_mfar a_mdrift a_mline a_mtape a_mcommands m_changes m_thrown m_errorAt m_failedAt m_answer m_isSaved m_lined m_taped m_here m_commandMany, kAr g a_ms 130 m_s_v3, kAr g a_mfar 8 m_far_19]) := hD
        refine lv_aload_n hx hb dX7_takes_60 rfl (lv_at hl 0 rfl) ?_
        refine lv_iload_n hx hb dX7_takes_61 rfl (lv_at hl 1 rfl) ?_
        refine lv_iconst (v := 3) hx hb dX7_takes_62 (by decide) ?_
        refine lv_iload_n hx hb dX7_takes_63 rfl (lv_at hl 3 rfl) ?_
        refine gCv1 (gRunV (As := [.int x1, .int 3, .int x3_19]) (rest := []) ⟨hx, hb, hml, hown, hts⟩ (ctX7_setsPlough l g a_mo a_ms a_mwas a_mtried a_msaved a_mpast a_mfar a_mdrift a_mline a_mtape a_mcommands _ m_changes m_thrown m_errorAt m_failedAt m_answer m_isSaved m_lined m_taped m_here m_commandMany m_s_v3 x1 3 x3_19 hw) (cwV 3 hts gX7_takes_X7_setsPlough rfl rfl rfl (by decide +kernel) ⟨Nat.le_of_ble_eq_true rfl, Nat.le_of_ble_eq_true rfl⟩) hE (gSub hP [0, 1]) (gDSub hD [0, 1] rfl) 0 11 rfl rfl rfl rfl rfl hl.1 rfl (lv_room (Nat.le_of_ble_eq_true rfl)) dX7_takes_64 ⟨Nat.le_of_ble_eq_true rfl, Nat.le_of_ble_eq_true rfl⟩) hP hD hS hA [0, 1] rfl (fun _ => rfl) rfl (fun m_s_v4 H locs hw hP hD hS => ?_)
        have hP : va_P g.1 vwCl (List.flatten [kMo g a_mo a_ms a_mwas a_mtried a_msaved a_mpast a_mfar a_mdrift a_mline a_mtape a_mcommands m_changes m_thrown m_errorAt m_failedAt m_answer m_isSaved m_lined m_taped m_here m_commandMany, kAr g a_ms 130 m_s_v4, kAr g a_mfar 8 m_far_19]) H := hP
        have hD : va_D A (List.flatten [kMo g a_mo a_ms a_mwas a_mtried a_msaved a_mpast a_mfar a_mdrift a_mline a_mtape a_mcommands m_changes m_thrown m_errorAt m_failedAt m_answer m_isSaved m_lined m_taped m_here m_commandMany, kAr g a_ms 130 m_s_v4, kAr g a_mfar 8 m_far_19]) := hD
        refine lv_aload_n hx hb dX7_takes_67 rfl (lv_at hl 0 rfl) ?_
        refine lv_aload_n hx hb dX7_takes_68 rfl (lv_at hl 0 rfl) ?_
        refine lv_iload_n hx hb dX7_takes_69 rfl (lv_at hl 1 rfl) ?_
        refine lv_iconst (v := 0) hx hb dX7_takes_70 (by decide) ?_
        refine gCi0 (gRunV (As := [.int x1, .int 0]) (rest := [.ref (a_mo 0)]) ⟨hx, hb, hml, hown, hts⟩ (ctX7_ofPlough l g a_mo a_ms a_mwas a_mtried a_msaved a_mpast a_mfar a_mdrift a_mline a_mtape a_mcommands _ m_changes m_thrown m_errorAt m_failedAt m_answer m_isSaved m_lined m_taped m_here m_commandMany m_s_v4 x1 0 hw) (cwV 2 hts gX7_takes_X7_ofPlough rfl rfl rfl (by decide +kernel) ⟨Nat.le_of_ble_eq_true rfl, Nat.le_of_ble_eq_true rfl⟩) hE (gSub hP [0, 1]) (gDSub hD [0, 1] rfl) 0 11 rfl rfl rfl rfl rfl hl.1 rfl (lv_room (Nat.le_of_ble_eq_true rfl)) dX7_takes_71 ⟨Nat.le_of_ble_eq_true rfl, Nat.le_of_ble_eq_true rfl⟩) hP hD hS hA [0, 1] rfl rfl rfl (fun r5 H locs hw hP hD hS => ?_)
        have hP : va_P g.1 vwCl (List.flatten [kMo g a_mo a_ms a_mwas a_mtried a_msaved a_mpast a_mfar a_mdrift a_mline a_mtape a_mcommands m_changes m_thrown m_errorAt m_failedAt m_answer m_isSaved m_lined m_taped m_here m_commandMany, kAr g a_ms 130 m_s_v4, kAr g a_mfar 8 m_far_19]) H := hP
        have hD : va_D A (List.flatten [kMo g a_mo a_ms a_mwas a_mtried a_msaved a_mpast a_mfar a_mdrift a_mline a_mtape a_mcommands m_changes m_thrown m_errorAt m_failedAt m_answer m_isSaved m_lined m_taped m_here m_commandMany, kAr g a_ms 130 m_s_v4, kAr g a_mfar 8 m_far_19]) := hD
        refine lv_iload_n hx hb dX7_takes_74 rfl (lv_at hl 2 rfl) ?_
        refine gCi1 (gRunV (As := [.int r5, .int x2_19]) (rest := []) ⟨hx, hb, hml, hown, hts⟩ (ctX7_minutes l g a_mo a_ms a_mwas a_mtried a_msaved a_mpast a_mfar a_mdrift a_mline a_mtape a_mcommands _ m_changes m_thrown m_errorAt m_failedAt m_answer m_isSaved m_lined m_taped m_here m_commandMany m_s_v4 m_far_19 r5 x2_19 hw) (cwV 2 hts gX7_takes_X7_minutes rfl rfl rfl (by decide +kernel) ⟨Nat.le_of_ble_eq_true rfl, Nat.le_of_ble_eq_true rfl⟩) hE (gSub hP [0, 1, 2]) (gDSub hD [0, 1, 2] rfl) 0 11 rfl rfl rfl rfl rfl hl.1 rfl (lv_room (Nat.le_of_ble_eq_true rfl)) dX7_takes_75 ⟨Nat.le_of_ble_eq_true rfl, Nat.le_of_ble_eq_true rfl⟩) hP hD hS hA [0, 1, 2] rfl (fun _ => rfl) rfl (fun r6 m_far_v6 H locs hw hP hD hS => ?_)
        have hP : va_P g.1 vwCl (List.flatten [kMo g a_mo a_ms a_mwas a_mtried a_msaved a_mpast a_mfar a_mdrift a_mline a_mtape a_mcommands m_changes m_thrown m_errorAt m_failedAt m_answer m_isSaved m_lined m_taped m_here m_commandMany, kAr g a_ms 130 m_s_v4, kAr g a_mfar 8 m_far_v6]) H := hP
        have hD : va_D A (List.flatten [kMo g a_mo a_ms a_mwas a_mtried a_msaved a_mpast a_mfar a_mdrift a_mline a_mtape a_mcommands m_changes m_thrown m_errorAt m_failedAt m_answer m_isSaved m_lined m_taped m_here m_commandMany, kAr g a_ms 130 m_s_v4, kAr g a_mfar 8 m_far_v6]) := hD
        refine lv_istore (lv' := [(4, .int r6), (0, .ref (a_mo 0)), (1, .int x1), (2, .int x2_19), (3, .int x3_19)]) hx hb dX7_takes_78 hl (by decide) rfl (fun ls hl => ?_)
        refine lv_iload hx hb dX7_takes_80 (lv_at hl 0 rfl) ?_
        refine lv_if_ge (tgt := 97) hx hb dX7_takes_82 (by decide) (fun c_82 => ?_) (fun c_82 => ?_)
        · have hw := hw.1 c_82
          refine lv_aload_n hx hb dX7_takes_97 rfl (lv_at hl 1 rfl) ?_
          refine va_get (D := g.1) (ci := 11) (v := .ref (a_mfar 0)) (C := RX7) (T := TX7) (N := 20) hx hb hts inX7_takes_X7 hown hE.1 hP 0 rfl rfl 5 (by decide) (gW hts 2 (.fieldLink RX7 25 "SnowDispatcherModel" "far" "[I") rfl) (fun _ h9 => h9) rfl dX7_takes_98 ?_
          refine lv_aload_n hx hb dX7_takes_101 rfl (lv_at hl 1 rfl) ?_
          refine lv_iload_n hx hb dX7_takes_102 rfl (lv_at hl 3 rfl) ?_
          refine lv_iconst (v := 0) hx hb dX7_takes_103 (by decide) ?_
          refine gCi0 (gRunV (As := [.int x2_19, .int 0]) (rest := [.ref (a_mfar 0)]) ⟨hx, hb, hml, hown, hts⟩ (ctX7_of l g a_mo a_ms a_mwas a_mtried a_msaved a_mpast a_mfar a_mdrift a_mline a_mtape a_mcommands _ m_changes m_thrown m_errorAt m_failedAt m_answer m_isSaved m_lined m_taped m_here m_commandMany m_s_v4 x2_19 0 hw) (cwV 2 hts gX7_takes_X7_of rfl rfl rfl (by decide +kernel) ⟨Nat.le_of_ble_eq_true rfl, Nat.le_of_ble_eq_true rfl⟩) hE (gSub hP [0, 1]) (gDSub hD [0, 1] rfl) 0 11 rfl rfl rfl rfl rfl hl.1 rfl (lv_room (Nat.le_of_ble_eq_true rfl)) dX7_takes_104 ⟨Nat.le_of_ble_eq_true rfl, Nat.le_of_ble_eq_true rfl⟩) hP hD hS hA [0, 1] rfl rfl rfl (fun r7 H locs hw hP hD hS => ?_)
          have hP : va_P g.1 vwCl (List.flatten [kMo g a_mo a_ms a_mwas a_mtried a_msaved a_mpast a_mfar a_mdrift a_mline a_mtape a_mcommands m_changes m_thrown m_errorAt m_failedAt m_answer m_isSaved m_lined m_taped m_here m_commandMany, kAr g a_ms 130 m_s_v4, kAr g a_mfar 8 m_far_v6]) H := hP
          have hD : va_D A (List.flatten [kMo g a_mo a_ms a_mwas a_mtried a_msaved a_mpast a_mfar a_mdrift a_mline a_mtape a_mcommands m_changes m_thrown m_errorAt m_failedAt m_answer m_isSaved m_lined m_taped m_here m_commandMany, kAr g a_ms 130 m_s_v4, kAr g a_mfar 8 m_far_v6]) := hD
          have h8 := hw.1
          have hw := hw.2
          refine va_iald hx hb hE.1 hP 2 0 rfl rfl h8 dX7_takes_107 ?_
          refine lv_aload_n hx hb dX7_takes_108 rfl (lv_at hl 1 rfl) ?_
          refine va_get (D := g.1) (ci := 11) (v := .ref (a_mfar 0)) (C := RX7) (T := TX7) (N := 20) hx hb hts inX7_takes_X7 hown hE.1 hP 0 rfl rfl 5 (by decide) (gW hts 2 (.fieldLink RX7 25 "SnowDispatcherModel" "far" "[I") rfl) (fun _ h9 => h9) rfl dX7_takes_109 ?_
          refine lv_aload_n hx hb dX7_takes_112 rfl (lv_at hl 1 rfl) ?_
          refine lv_iload_n hx hb dX7_takes_113 rfl (lv_at hl 3 rfl) ?_
          refine lv_iconst (v := 1) hx hb dX7_takes_114 (by decide) ?_
          refine gCi0 (gRunV (As := [.int x2_19, .int 1]) (rest := [.ref (a_mfar 0), .int (m_far_v6 r7.toNatClampNeg)]) ⟨hx, hb, hml, hown, hts⟩ (ctX7_of l g a_mo a_ms a_mwas a_mtried a_msaved a_mpast a_mfar a_mdrift a_mline a_mtape a_mcommands _ m_changes m_thrown m_errorAt m_failedAt m_answer m_isSaved m_lined m_taped m_here m_commandMany m_s_v4 x2_19 1 hw) (cwV 2 hts gX7_takes_X7_of rfl rfl rfl (by decide +kernel) ⟨Nat.le_of_ble_eq_true rfl, Nat.le_of_ble_eq_true rfl⟩) hE (gSub hP [0, 1]) (gDSub hD [0, 1] rfl) 0 11 rfl rfl rfl rfl rfl hl.1 rfl (lv_room (Nat.le_of_ble_eq_true rfl)) dX7_takes_115 ⟨Nat.le_of_ble_eq_true rfl, Nat.le_of_ble_eq_true rfl⟩) hP hD hS hA [0, 1] rfl rfl rfl (fun r9 H locs hw hP hD hS => ?_)
          have hP : va_P g.1 vwCl (List.flatten [kMo g a_mo a_ms a_mwas a_mtried a_msaved a_mpast a_mfar a_mdrift a_mline a_mtape a_mcommands m_changes m_thrown m_errorAt m_failedAt m_answer m_isSaved m_lined m_taped m_here m_commandMany, kAr g a_ms 130 m_s_v4, kAr g a_mfar 8 m_far_v6]) H := hP
          have hD : va_D A (List.flatten [kMo g a_mo a_ms a_mwas a_mtried a_msaved a_mpast a_mfar a_mdrift a_mline a_mtape a_mcommands m_changes m_thrown m_errorAt m_failedAt m_answer m_isSaved m_lined m_taped m_here m_commandMany, kAr g a_ms 130 m_s_v4, kAr g a_mfar 8 m_far_v6]) := hD
          have h10 := hw.1
          have hw := hw.2
          refine va_iald hx hb hE.1 hP 2 0 rfl rfl h10 dX7_takes_118 ?_
          refine lv_icmp_gt (tgt := 126) hx hb dX7_takes_119 (by decide) (fun c_119 => ?_) (fun c_119 => ?_)
          · have hw := hw.1 c_119
            refine lv_iconst (v := 0) hx hb dX7_takes_126 (by decide) ?_
            exact J127 0 x2_19 r6 m_s_v4 m_far_v6 _ _ _ hw hP hD hS (lv_sub hl [1, 2, 3, 0] rfl)
          · have hw := hw.2 c_119
            refine lv_iconst (v := 1) hx hb dX7_takes_122 (by decide) ?_
            refine lv_goto (tgt := 127) hx hb dX7_takes_123 (by decide) ?_
            exact J127 1 x2_19 r6 m_s_v4 m_far_v6 _ _ _ hw hP hD hS (lv_sub hl [1, 2, 3, 0] rfl)
        · have hw := hw.2 c_82
          refine lv_aload_n hx hb dX7_takes_85 rfl (lv_at hl 1 rfl) ?_
          refine va_get (D := g.1) (ci := 11) (v := .ref (a_ms 0)) (C := RX7) (T := TX7) (N := 20) hx hb hts inX7_takes_X7 hown hE.1 hP 0 rfl rfl 0 (by decide) (gW hts 1 (.fieldLink RX7 9 "SnowDispatcherModel" "s" "[I") rfl) (fun _ h9 => h9) rfl dX7_takes_86 ?_
          refine lv_bipush (v := 8) hx hb dX7_takes_89 (by decide) ?_
          refine lv_dup2_11 hx hb dX7_takes_91 rfl rfl ?_
          have h17 := hw.1
          have hw := hw.2
          refine va_iald hx hb hE.1 hP 1 0 rfl rfl h17 dX7_takes_92 ?_
          refine lv_iconst (v := 1) hx hb dX7_takes_93 (by decide) ?_
          refine lv_iadd hx hb dX7_takes_94 ?_
          have h18 := hw.1
          have hw := hw.2
          refine va_iast hx hb hE.1 hP hD hS 1 0 rfl rfl h18 dX7_takes_95 (fun H locs hP hD hS => ?_)
          have hP : va_P g.1 vwCl (List.flatten [kMo g a_mo a_ms a_mwas a_mtried a_msaved a_mpast a_mfar a_mdrift a_mline a_mtape a_mcommands m_changes m_thrown m_errorAt m_failedAt m_answer m_isSaved m_lined m_taped m_here m_commandMany, kAr g a_ms 130 (upd m_s_v4 (8 : Int32).toNatClampNeg ((m_s_v4 (8 : Int32).toNatClampNeg) + 1)), kAr g a_mfar 8 m_far_v6]) H := hP
          have hD : va_D A (List.flatten [kMo g a_mo a_ms a_mwas a_mtried a_msaved a_mpast a_mfar a_mdrift a_mline a_mtape a_mcommands m_changes m_thrown m_errorAt m_failedAt m_answer m_isSaved m_lined m_taped m_here m_commandMany, kAr g a_ms 130 (upd m_s_v4 (8 : Int32).toNatClampNeg ((m_s_v4 (8 : Int32).toNatClampNeg) + 1)), kAr g a_mfar 8 m_far_v6]) := hD
          subst hQ
          exact W.vret hx hb hr (gRv2 (c1 := (upd m_s_v4 (8 : Int32).toNatClampNeg ((m_s_v4 (8 : Int32).toNatClampNeg) + 1))) (c2 := m_far_v6) (wf := _) hA0 hsz hw hP hD hS) hS.2.2 dX7_takes_96
      · have hw := hw.2 c_22
        refine lv_aload_n hx hb dX7_takes_25 rfl (lv_at hl 0 rfl) ?_
        refine lv_iload_n hx hb dX7_takes_26 rfl (lv_at hl 1 rfl) ?_
        refine lv_iconst (v := 4) hx hb dX7_takes_27 (by decide) ?_
        refine lv_iload hx hb dX7_takes_28 (lv_at hl 4 rfl) ?_
        refine lv_iadd hx hb dX7_takes_30 ?_
        refine lv_aload_n hx hb dX7_takes_31 rfl (lv_at hl 0 rfl) ?_
        refine lv_iload_n hx hb dX7_takes_32 rfl (lv_at hl 1 rfl) ?_
        refine lv_iconst (v := 4) hx hb dX7_takes_33 (by decide) ?_
        refine lv_iload hx hb dX7_takes_34 (lv_at hl 4 rfl) ?_
        refine lv_iadd hx hb dX7_takes_36 ?_
        refine lv_iconst (v := 1) hx hb dX7_takes_37 (by decide) ?_
        refine lv_iadd hx hb dX7_takes_38 ?_
        refine gCi0 (gRunV (As := [.int x1, .int ((4 + x4_19) + 1)]) (rest := [.int (4 + x4_19), .int x1, .ref (a_mo 0)]) ⟨hx, hb, hml, hown, hts⟩ (ctX7_ofPlough l g a_mo a_ms a_mwas a_mtried a_msaved a_mpast a_mfar a_mdrift a_mline a_mtape a_mcommands _ m_changes m_thrown m_errorAt m_failedAt m_answer m_isSaved m_lined m_taped m_here m_commandMany m_s_19 x1 ((4 + x4_19) + 1) hw) (cwV 2 hts gX7_takes_X7_ofPlough rfl rfl rfl (by decide +kernel) ⟨Nat.le_of_ble_eq_true rfl, Nat.le_of_ble_eq_true rfl⟩) hE (gSub hP [0, 1]) (gDSub hD [0, 1] rfl) 0 11 rfl rfl rfl rfl rfl hl.1 rfl (lv_room (Nat.le_of_ble_eq_true rfl)) dX7_takes_39 ⟨Nat.le_of_ble_eq_true rfl, Nat.le_of_ble_eq_true rfl⟩) hP hD hS hA [0, 1] rfl rfl rfl (fun r19 H locs hw hP hD hS => ?_)
        have hP : va_P g.1 vwCl (List.flatten [kMo g a_mo a_ms a_mwas a_mtried a_msaved a_mpast a_mfar a_mdrift a_mline a_mtape a_mcommands m_changes m_thrown m_errorAt m_failedAt m_answer m_isSaved m_lined m_taped m_here m_commandMany, kAr g a_ms 130 m_s_19, kAr g a_mfar 8 m_far_19]) H := hP
        have hD : va_D A (List.flatten [kMo g a_mo a_ms a_mwas a_mtried a_msaved a_mpast a_mfar a_mdrift a_mline a_mtape a_mcommands m_changes m_thrown m_errorAt m_failedAt m_answer m_isSaved m_lined m_taped m_here m_commandMany, kAr g a_ms 130 m_s_19, kAr g a_mfar 8 m_far_19]) := hD
        refine gCv1 (gRunV (As := [.int x1, .int (4 + x4_19), .int r19]) (rest := []) ⟨hx, hb, hml, hown, hts⟩ (ctX7_setsPlough l g a_mo a_ms a_mwas a_mtried a_msaved a_mpast a_mfar a_mdrift a_mline a_mtape a_mcommands _ m_changes m_thrown m_errorAt m_failedAt m_answer m_isSaved m_lined m_taped m_here m_commandMany m_s_19 x1 (4 + x4_19) r19 hw) (cwV 3 hts gX7_takes_X7_setsPlough rfl rfl rfl (by decide +kernel) ⟨Nat.le_of_ble_eq_true rfl, Nat.le_of_ble_eq_true rfl⟩) hE (gSub hP [0, 1]) (gDSub hD [0, 1] rfl) 0 11 rfl rfl rfl rfl rfl hl.1 rfl (lv_room (Nat.le_of_ble_eq_true rfl)) dX7_takes_42 ⟨Nat.le_of_ble_eq_true rfl, Nat.le_of_ble_eq_true rfl⟩) hP hD hS hA [0, 1] rfl (fun _ => rfl) rfl (fun m_s_v20 H locs hw hP hD hS => ?_)
        have hP : va_P g.1 vwCl (List.flatten [kMo g a_mo a_ms a_mwas a_mtried a_msaved a_mpast a_mfar a_mdrift a_mline a_mtape a_mcommands m_changes m_thrown m_errorAt m_failedAt m_answer m_isSaved m_lined m_taped m_here m_commandMany, kAr g a_ms 130 m_s_v20, kAr g a_mfar 8 m_far_19]) H := hP
        have hD : va_D A (List.flatten [kMo g a_mo a_ms a_mwas a_mtried a_msaved a_mpast a_mfar a_mdrift a_mline a_mtape a_mcommands m_changes m_thrown m_errorAt m_failedAt m_answer m_isSaved m_lined m_taped m_here m_commandMany, kAr g a_ms 130 m_s_v20, kAr g a_mfar 8 m_far_19]) := hD
        refine lv_iinc (v := (x4_19 + 1)) (lv' := [(4, .int (x4_19 + 1)), (0, .ref (a_mo 0)), (1, .int x1), (2, .int x2_19), (3, .int x3_19)]) hx hb dX7_takes_45 hl (k := 4) rfl rfl (by decide) rfl (fun ls hl => ?_)
        refine lv_goto (tgt := 19) hx hb dX7_takes_48 (by decide) ?_
        exact ih_19 x2_19 x3_19 m_far_19 (x4_19 + 1) m_s_v20 _ _ _ hw hP hD hS (lv_sub hl [1, 2, 3, 4, 0] rfl)
  refine lv_aload_n hx hb dX7_takes_0 rfl (lv_at hl 0 rfl) ?_
  refine lv_iload_n hx hb dX7_takes_1 rfl (lv_at hl 1 rfl) ?_
  refine lv_iconst (v := 4) hx hb dX7_takes_2 (by decide) ?_
  refine gCi0 (gRunV (As := [.int x1, .int 4]) (rest := []) ⟨hx, hb, hml, hown, hts⟩ (ctX7_ofPlough l g a_mo a_ms a_mwas a_mtried a_msaved a_mpast a_mfar a_mdrift a_mline a_mtape a_mcommands _ m_changes m_thrown m_errorAt m_failedAt m_answer m_isSaved m_lined m_taped m_here m_commandMany m_s x1 4 hw) (cwV 2 hts gX7_takes_X7_ofPlough rfl rfl rfl (by decide +kernel) ⟨Nat.le_of_ble_eq_true rfl, Nat.le_of_ble_eq_true rfl⟩) hE (gSub hP [0, 1]) (gDSub hD [0, 1] rfl) 0 11 rfl rfl rfl rfl rfl hl.1 rfl (lv_room (Nat.le_of_ble_eq_true rfl)) dX7_takes_3 ⟨Nat.le_of_ble_eq_true rfl, Nat.le_of_ble_eq_true rfl⟩) hP hD hS hA [0, 1] rfl rfl rfl (fun r1 H locs hw hP hD hS => ?_)
  have hP : va_P g.1 vwCl (List.flatten [kMo g a_mo a_ms a_mwas a_mtried a_msaved a_mpast a_mfar a_mdrift a_mline a_mtape a_mcommands m_changes m_thrown m_errorAt m_failedAt m_answer m_isSaved m_lined m_taped m_here m_commandMany, kAr g a_ms 130 m_s, kAr g a_mfar 8 m_far]) H := hP
  have hD : va_D A (List.flatten [kMo g a_mo a_ms a_mwas a_mtried a_msaved a_mpast a_mfar a_mdrift a_mline a_mtape a_mcommands m_changes m_thrown m_errorAt m_failedAt m_answer m_isSaved m_lined m_taped m_here m_commandMany, kAr g a_ms 130 m_s, kAr g a_mfar 8 m_far]) := hD
  refine lv_istore_n (lv' := [(2, .int r1), (0, .ref (a_mo 0)), (1, .int x1)]) hx hb dX7_takes_6 rfl hl (by decide) rfl (fun ls hl => ?_)
  refine lv_aload_n hx hb dX7_takes_7 rfl (lv_at hl 1 rfl) ?_
  refine lv_iload_n hx hb dX7_takes_8 rfl (lv_at hl 2 rfl) ?_
  refine lv_iconst (v := 3) hx hb dX7_takes_9 (by decide) ?_
  refine gCi0 (gRunV (As := [.int x1, .int 3]) (rest := []) ⟨hx, hb, hml, hown, hts⟩ (ctX7_ofPlough l g a_mo a_ms a_mwas a_mtried a_msaved a_mpast a_mfar a_mdrift a_mline a_mtape a_mcommands _ m_changes m_thrown m_errorAt m_failedAt m_answer m_isSaved m_lined m_taped m_here m_commandMany m_s x1 3 hw) (cwV 2 hts gX7_takes_X7_ofPlough rfl rfl rfl (by decide +kernel) ⟨Nat.le_of_ble_eq_true rfl, Nat.le_of_ble_eq_true rfl⟩) hE (gSub hP [0, 1]) (gDSub hD [0, 1] rfl) 0 11 rfl rfl rfl rfl rfl hl.1 rfl (lv_room (Nat.le_of_ble_eq_true rfl)) dX7_takes_10 ⟨Nat.le_of_ble_eq_true rfl, Nat.le_of_ble_eq_true rfl⟩) hP hD hS hA [0, 1] rfl rfl rfl (fun r2 H locs hw hP hD hS => ?_)
  have hP : va_P g.1 vwCl (List.flatten [kMo g a_mo a_ms a_mwas a_mtried a_msaved a_mpast a_mfar a_mdrift a_mline a_mtape a_mcommands m_changes m_thrown m_errorAt m_failedAt m_answer m_isSaved m_lined m_taped m_here m_commandMany, kAr g a_ms 130 m_s, kAr g a_mfar 8 m_far]) H := hP
  have hD : va_D A (List.flatten [kMo g a_mo a_ms a_mwas a_mtried a_msaved a_mpast a_mfar a_mdrift a_mline a_mtape a_mcommands m_changes m_thrown m_errorAt m_failedAt m_answer m_isSaved m_lined m_taped m_here m_commandMany, kAr g a_ms 130 m_s, kAr g a_mfar 8 m_far]) := hD
  refine lv_iconst (v := 1) hx hb dX7_takes_13 (by decide) ?_
  refine lv_isub hx hb dX7_takes_14 ?_
  refine lv_istore_n (lv' := [(3, .int (r2 - 1)), (2, .int r1), (0, .ref (a_mo 0)), (1, .int x1)]) hx hb dX7_takes_15 rfl hl (by decide) rfl (fun ls hl => ?_)
  refine lv_iconst (v := 0) hx hb dX7_takes_16 (by decide) ?_
  refine lv_istore (lv' := [(4, .int 0), (3, .int (r2 - 1)), (2, .int r1), (0, .ref (a_mo 0)), (1, .int x1)]) hx hb dX7_takes_17 hl (by decide) rfl (fun ls hl => ?_)
  obtain ⟨n, hw⟩ := hw
  exact L19 n r1 (r2 - 1) m_far 0 m_s _ _ _ hw hP hD hS (lv_sub hl [3, 4, 2, 1, 0] rfl)
abbrev rmX7_clears : Room := { frames := 2, cells := 0, slots := 0, locals := 124 }
set_option maxRecDepth 20000 in
theorem inX7_clears_X7 : ∀ w ∈ wsX70, w ∈ wsX7_clears := by decide +kernel
set_option maxHeartbeats 4000000 in
set_option maxRecDepth 100000 in
theorem ctX7_clears (l : Launch) (g : GG) (a_mo : Nat → Nat) (a_ms : Nat → Nat) (a_mwas : Nat → Nat) (a_mtried : Nat → Nat) (a_msaved : Nat → Nat) (a_mpast : Nat → Nat) (a_mfar : Nat → Nat) (a_mdrift : Nat → Nat) (a_mline : Nat → Nat) (a_mtape : Nat → Nat) (a_mcommands : Nat → Nat) (sz : Nat) (m_changes : Int32) (m_thrown : Int32) (m_errorAt : Int32) (m_failedAt : Int32) (m_answer : Int32) (m_isSaved : Int32) (m_lined : Int32) (m_taped : Int32) (m_here : Int32) (m_commandMany : Int32) (m_s : Nat → Int32) (x1 : Int32) {post : (Nat → Int32) → Prop} (hw : wpX7_clears x1 m_s post) :
    Met l yX7_clears wsX7_clears rmX7_clears (gPc g sz (List.flatten [kMo g a_mo a_ms a_mwas a_mtried a_msaved a_mpast a_mfar a_mdrift a_mline a_mtape a_mcommands m_changes m_thrown m_errorAt m_failedAt m_answer m_isSaved m_lined m_taped m_here m_commandMany, kAr g a_ms 130 m_s]) [.ref (a_mo 0), .int x1]) (gQv1 post (fun u1 => gB g (List.flatten [kMo g a_mo a_ms a_mwas a_mtried a_msaved a_mpast a_mfar a_mdrift a_mline a_mtape a_mcommands m_changes m_thrown m_errorAt m_failedAt m_answer m_isSaved m_lined m_taped m_here m_commandMany, kAr g a_ms 130 m_s]) sz (List.flatten [kMo g a_mo a_ms a_mwas a_mtried a_msaved a_mpast a_mfar a_mdrift a_mline a_mtape a_mcommands m_changes m_thrown m_errorAt m_failedAt m_answer m_isSaved m_lined m_taped m_here m_commandMany, kAr g a_ms 130 u1])) (va_A (List.flatten [kMo g a_mo a_ms a_mwas a_mtried a_msaved a_mpast a_mfar a_mdrift a_mline a_mtape a_mcommands m_changes m_thrown m_errorAt m_failedAt m_answer m_isSaved m_lined m_taped m_here m_commandMany, kAr g a_ms 130 m_s]) sz)) 0 0 (va_A (List.flatten [kMo g a_mo a_ms a_mwas a_mtried a_msaved a_mpast a_mfar a_mdrift a_mline a_mtape a_mcommands m_changes m_thrown m_errorAt m_failedAt m_answer m_isSaved m_lined m_taped m_here m_commandMany, kAr g a_ms 130 m_s]) sz) := by
  refine gOf (cc := cX7_clears) (maxL := 3) (ret := none) (by decide) rfl (Nat.le_of_ble_eq_true rfl) ?_
  intro p e s m below meth c ls Q A hQ hx hb hr hml hts hown hlocks hE hA0 hsz hP hD hA hS hl
  have hl : lv_has ls 3 [(0, .ref (a_mo 0)), (1, .int x1)] := hl
  refine lv_aload_n hx hb dX7_clears_0 rfl (lv_at hl 0 rfl) ?_
  refine lv_iload_n hx hb dX7_clears_1 rfl (lv_at hl 1 rfl) ?_
  refine lv_iconst (v := 2) hx hb dX7_clears_2 (by decide) ?_
  refine gCi0 (gRunV (As := [.int x1, .int 2]) (rest := []) ⟨hx, hb, hml, hown, hts⟩ (ctX7_ofPlough l g a_mo a_ms a_mwas a_mtried a_msaved a_mpast a_mfar a_mdrift a_mline a_mtape a_mcommands _ m_changes m_thrown m_errorAt m_failedAt m_answer m_isSaved m_lined m_taped m_here m_commandMany m_s x1 2 hw) (cwV 2 hts gX7_clears_X7_ofPlough rfl rfl rfl (by decide +kernel) ⟨Nat.le_of_ble_eq_true rfl, Nat.le_of_ble_eq_true rfl⟩) hE (gSub hP [0, 1]) (gDSub hD [0, 1] rfl) 0 11 rfl rfl rfl rfl rfl hl.1 rfl (lv_room (Nat.le_of_ble_eq_true rfl)) dX7_clears_3 ⟨Nat.le_of_ble_eq_true rfl, Nat.le_of_ble_eq_true rfl⟩) hP hD hS hA [0, 1] rfl rfl rfl (fun r1 H locs hw hP hD hS => ?_)
  have hP : va_P g.1 vwCl (List.flatten [kMo g a_mo a_ms a_mwas a_mtried a_msaved a_mpast a_mfar a_mdrift a_mline a_mtape a_mcommands m_changes m_thrown m_errorAt m_failedAt m_answer m_isSaved m_lined m_taped m_here m_commandMany, kAr g a_ms 130 m_s]) H := hP
  have hD : va_D A (List.flatten [kMo g a_mo a_ms a_mwas a_mtried a_msaved a_mpast a_mfar a_mdrift a_mline a_mtape a_mcommands m_changes m_thrown m_errorAt m_failedAt m_answer m_isSaved m_lined m_taped m_here m_commandMany, kAr g a_ms 130 m_s]) := hD
  refine lv_istore_n (lv' := [(2, .int r1), (0, .ref (a_mo 0)), (1, .int x1)]) hx hb dX7_clears_6 rfl hl (by decide) rfl (fun ls hl => ?_)
  refine lv_aload_n hx hb dX7_clears_7 rfl (lv_at hl 1 rfl) ?_
  refine va_get (D := g.1) (ci := 11) (v := .ref (a_ms 0)) (C := RX7) (T := TX7) (N := 20) hx hb hts inX7_clears_X7 hown hE.1 hP 0 rfl rfl 0 (by decide) (gW hts 1 (.fieldLink RX7 9 "SnowDispatcherModel" "s" "[I") rfl) (fun _ h9 => h9) rfl dX7_clears_8 ?_
  refine lv_bipush (v := 6) hx hb dX7_clears_11 (by decide) ?_
  refine lv_dup2_11 hx hb dX7_clears_13 rfl rfl ?_
  have h2 := hw.1
  have hw := hw.2
  refine va_iald hx hb hE.1 hP 1 0 rfl rfl h2 dX7_clears_14 ?_
  refine lv_iconst (v := 1) hx hb dX7_clears_15 (by decide) ?_
  refine lv_iadd hx hb dX7_clears_16 ?_
  have h3 := hw.1
  have hw := hw.2
  refine va_iast hx hb hE.1 hP hD hS 1 0 rfl rfl h3 dX7_clears_17 (fun H locs hP hD hS => ?_)
  have hP : va_P g.1 vwCl (List.flatten [kMo g a_mo a_ms a_mwas a_mtried a_msaved a_mpast a_mfar a_mdrift a_mline a_mtape a_mcommands m_changes m_thrown m_errorAt m_failedAt m_answer m_isSaved m_lined m_taped m_here m_commandMany, kAr g a_ms 130 (upd m_s (6 : Int32).toNatClampNeg ((m_s (6 : Int32).toNatClampNeg) + 1))]) H := hP
  have hD : va_D A (List.flatten [kMo g a_mo a_ms a_mwas a_mtried a_msaved a_mpast a_mfar a_mdrift a_mline a_mtape a_mcommands m_changes m_thrown m_errorAt m_failedAt m_answer m_isSaved m_lined m_taped m_here m_commandMany, kAr g a_ms 130 (upd m_s (6 : Int32).toNatClampNeg ((m_s (6 : Int32).toNatClampNeg) + 1))]) := hD
  refine lv_aload_n hx hb dX7_clears_18 rfl (lv_at hl 1 rfl) ?_
  refine va_get (D := g.1) (ci := 11) (v := .ref (a_ms 0)) (C := RX7) (T := TX7) (N := 20) hx hb hts inX7_clears_X7 hown hE.1 hP 0 rfl rfl 0 (by decide) (gW hts 1 (.fieldLink RX7 9 "SnowDispatcherModel" "s" "[I") rfl) (fun _ h9 => h9) rfl dX7_clears_19 ?_
  refine lv_bipush (v := 7) hx hb dX7_clears_22 (by decide) ?_
  refine lv_dup2_11 hx hb dX7_clears_24 rfl rfl ?_
  have h4 := hw.1
  have hw := hw.2
  refine va_iald hx hb hE.1 hP 1 0 rfl rfl h4 dX7_clears_25 ?_
  refine lv_aload_n hx hb dX7_clears_26 rfl (lv_at hl 1 rfl) ?_
  refine lv_iload_n hx hb dX7_clears_27 rfl (lv_at hl 0 rfl) ?_
  refine lv_iconst (v := 4) hx hb dX7_clears_28 (by decide) ?_
  refine gCi0 (gRunV (As := [.int r1, .int 4]) (rest := [.int ((upd m_s (6 : Int32).toNatClampNeg ((m_s (6 : Int32).toNatClampNeg) + 1)) (7 : Int32).toNatClampNeg), .int 7, .ref (a_ms 0)]) ⟨hx, hb, hml, hown, hts⟩ (ctX7_of l g a_mo a_ms a_mwas a_mtried a_msaved a_mpast a_mfar a_mdrift a_mline a_mtape a_mcommands _ m_changes m_thrown m_errorAt m_failedAt m_answer m_isSaved m_lined m_taped m_here m_commandMany (upd m_s (6 : Int32).toNatClampNeg ((m_s (6 : Int32).toNatClampNeg) + 1)) r1 4 hw) (cwV 2 hts gX7_clears_X7_of rfl rfl rfl (by decide +kernel) ⟨Nat.le_of_ble_eq_true rfl, Nat.le_of_ble_eq_true rfl⟩) hE (gSub hP [0, 1]) (gDSub hD [0, 1] rfl) 0 11 rfl rfl rfl rfl rfl hl.1 rfl (lv_room (Nat.le_of_ble_eq_true rfl)) dX7_clears_29 ⟨Nat.le_of_ble_eq_true rfl, Nat.le_of_ble_eq_true rfl⟩) hP hD hS hA [0, 1] rfl rfl rfl (fun r5 H locs hw hP hD hS => ?_)
  have hP : va_P g.1 vwCl (List.flatten [kMo g a_mo a_ms a_mwas a_mtried a_msaved a_mpast a_mfar a_mdrift a_mline a_mtape a_mcommands m_changes m_thrown m_errorAt m_failedAt m_answer m_isSaved m_lined m_taped m_here m_commandMany, kAr g a_ms 130 (upd m_s (6 : Int32).toNatClampNeg ((m_s (6 : Int32).toNatClampNeg) + 1))]) H := hP
  have hD : va_D A (List.flatten [kMo g a_mo a_ms a_mwas a_mtried a_msaved a_mpast a_mfar a_mdrift a_mline a_mtape a_mcommands m_changes m_thrown m_errorAt m_failedAt m_answer m_isSaved m_lined m_taped m_here m_commandMany, kAr g a_ms 130 (upd m_s (6 : Int32).toNatClampNeg ((m_s (6 : Int32).toNatClampNeg) + 1))]) := hD
  refine lv_iadd hx hb dX7_clears_32 ?_
  have h6 := hw.1
  have hw := hw.2
  refine va_iast hx hb hE.1 hP hD hS 1 0 rfl rfl h6 dX7_clears_33 (fun H locs hP hD hS => ?_)
  have hP : va_P g.1 vwCl (List.flatten [kMo g a_mo a_ms a_mwas a_mtried a_msaved a_mpast a_mfar a_mdrift a_mline a_mtape a_mcommands m_changes m_thrown m_errorAt m_failedAt m_answer m_isSaved m_lined m_taped m_here m_commandMany, kAr g a_ms 130 (upd (upd m_s (6 : Int32).toNatClampNeg ((m_s (6 : Int32).toNatClampNeg) + 1)) (7 : Int32).toNatClampNeg (((upd m_s (6 : Int32).toNatClampNeg ((m_s (6 : Int32).toNatClampNeg) + 1)) (7 : Int32).toNatClampNeg) + r5))]) H := hP
  have hD : va_D A (List.flatten [kMo g a_mo a_ms a_mwas a_mtried a_msaved a_mpast a_mfar a_mdrift a_mline a_mtape a_mcommands m_changes m_thrown m_errorAt m_failedAt m_answer m_isSaved m_lined m_taped m_here m_commandMany, kAr g a_ms 130 (upd (upd m_s (6 : Int32).toNatClampNeg ((m_s (6 : Int32).toNatClampNeg) + 1)) (7 : Int32).toNatClampNeg (((upd m_s (6 : Int32).toNatClampNeg ((m_s (6 : Int32).toNatClampNeg) + 1)) (7 : Int32).toNatClampNeg) + r5))]) := hD
  refine lv_aload_n hx hb dX7_clears_34 rfl (lv_at hl 1 rfl) ?_
  refine lv_iload_n hx hb dX7_clears_35 rfl (lv_at hl 0 rfl) ?_
  refine lv_iconst (v := 4) hx hb dX7_clears_36 (by decide) ?_
  refine lv_iconst (v := 0) hx hb dX7_clears_37 (by decide) ?_
  refine gCv1 (gRunV (As := [.int r1, .int 4, .int 0]) (rest := []) ⟨hx, hb, hml, hown, hts⟩ (ctX7_sets l g a_mo a_ms a_mwas a_mtried a_msaved a_mpast a_mfar a_mdrift a_mline a_mtape a_mcommands _ m_changes m_thrown m_errorAt m_failedAt m_answer m_isSaved m_lined m_taped m_here m_commandMany (upd (upd m_s (6 : Int32).toNatClampNeg ((m_s (6 : Int32).toNatClampNeg) + 1)) (7 : Int32).toNatClampNeg (((upd m_s (6 : Int32).toNatClampNeg ((m_s (6 : Int32).toNatClampNeg) + 1)) (7 : Int32).toNatClampNeg) + r5)) r1 4 0 hw) (cwV 3 hts gX7_clears_X7_sets rfl rfl rfl (by decide +kernel) ⟨Nat.le_of_ble_eq_true rfl, Nat.le_of_ble_eq_true rfl⟩) hE (gSub hP [0, 1]) (gDSub hD [0, 1] rfl) 0 11 rfl rfl rfl rfl rfl hl.1 rfl (lv_room (Nat.le_of_ble_eq_true rfl)) dX7_clears_38 ⟨Nat.le_of_ble_eq_true rfl, Nat.le_of_ble_eq_true rfl⟩) hP hD hS hA [0, 1] rfl (fun _ => rfl) rfl (fun m_s_v7 H locs hw hP hD hS => ?_)
  have hP : va_P g.1 vwCl (List.flatten [kMo g a_mo a_ms a_mwas a_mtried a_msaved a_mpast a_mfar a_mdrift a_mline a_mtape a_mcommands m_changes m_thrown m_errorAt m_failedAt m_answer m_isSaved m_lined m_taped m_here m_commandMany, kAr g a_ms 130 m_s_v7]) H := hP
  have hD : va_D A (List.flatten [kMo g a_mo a_ms a_mwas a_mtried a_msaved a_mpast a_mfar a_mdrift a_mline a_mtape a_mcommands m_changes m_thrown m_errorAt m_failedAt m_answer m_isSaved m_lined m_taped m_here m_commandMany, kAr g a_ms 130 m_s_v7]) := hD
  refine lv_aload_n hx hb dX7_clears_41 rfl (lv_at hl 1 rfl) ?_
  refine lv_iload_n hx hb dX7_clears_42 rfl (lv_at hl 2 rfl) ?_
  refine lv_iconst (v := 2) hx hb dX7_clears_43 (by decide) ?_
  refine lv_iconst (v := 0) hx hb dX7_clears_44 (by decide) ?_
  refine gCv1 (gRunV (As := [.int x1, .int 2, .int 0]) (rest := []) ⟨hx, hb, hml, hown, hts⟩ (ctX7_setsPlough l g a_mo a_ms a_mwas a_mtried a_msaved a_mpast a_mfar a_mdrift a_mline a_mtape a_mcommands _ m_changes m_thrown m_errorAt m_failedAt m_answer m_isSaved m_lined m_taped m_here m_commandMany m_s_v7 x1 2 0 hw) (cwV 3 hts gX7_clears_X7_setsPlough rfl rfl rfl (by decide +kernel) ⟨Nat.le_of_ble_eq_true rfl, Nat.le_of_ble_eq_true rfl⟩) hE (gSub hP [0, 1]) (gDSub hD [0, 1] rfl) 0 11 rfl rfl rfl rfl rfl hl.1 rfl (lv_room (Nat.le_of_ble_eq_true rfl)) dX7_clears_45 ⟨Nat.le_of_ble_eq_true rfl, Nat.le_of_ble_eq_true rfl⟩) hP hD hS hA [0, 1] rfl (fun _ => rfl) rfl (fun m_s_v8 H locs hw hP hD hS => ?_)
  have hP : va_P g.1 vwCl (List.flatten [kMo g a_mo a_ms a_mwas a_mtried a_msaved a_mpast a_mfar a_mdrift a_mline a_mtape a_mcommands m_changes m_thrown m_errorAt m_failedAt m_answer m_isSaved m_lined m_taped m_here m_commandMany, kAr g a_ms 130 m_s_v8]) H := hP
  have hD : va_D A (List.flatten [kMo g a_mo a_ms a_mwas a_mtried a_msaved a_mpast a_mfar a_mdrift a_mline a_mtape a_mcommands m_changes m_thrown m_errorAt m_failedAt m_answer m_isSaved m_lined m_taped m_here m_commandMany, kAr g a_ms 130 m_s_v8]) := hD
  subst hQ
  exact W.vret hx hb hr (gRv1 (c1 := m_s_v8) (wf := _) hA0 hsz hw hP hD hS) hS.2.2 dX7_clears_48
abbrev rmX7_ploughMinute : Room := { frames := 5, cells := 0, slots := 0, locals := 199 }
set_option maxRecDepth 20000 in
theorem inX7_ploughMinute_X7 : ∀ w ∈ wsX70, w ∈ wsX7_ploughMinute := by decide +kernel
set_option maxHeartbeats 4000000 in
set_option maxRecDepth 100000 in
theorem ctX7_ploughMinute (l : Launch) (g : GG) (a_mo : Nat → Nat) (a_ms : Nat → Nat) (a_mwas : Nat → Nat) (a_mtried : Nat → Nat) (a_msaved : Nat → Nat) (a_mpast : Nat → Nat) (a_mfar : Nat → Nat) (a_mdrift : Nat → Nat) (a_mline : Nat → Nat) (a_mtape : Nat → Nat) (a_mcommands : Nat → Nat) (sz : Nat) (m_changes : Int32) (m_thrown : Int32) (m_errorAt : Int32) (m_failedAt : Int32) (m_answer : Int32) (m_isSaved : Int32) (m_lined : Int32) (m_taped : Int32) (m_here : Int32) (m_commandMany : Int32) (m_s : Nat → Int32) (m_far : Nat → Int32) (x1 : Int32) {post : Int32 → (Nat → Int32) → (Nat → Int32) → Prop} (hw : wpX7_ploughMinute x1 m_s m_far post) :
    Met l yX7_ploughMinute wsX7_ploughMinute rmX7_ploughMinute (gPc g sz (List.flatten [kMo g a_mo a_ms a_mwas a_mtried a_msaved a_mpast a_mfar a_mdrift a_mline a_mtape a_mcommands m_changes m_thrown m_errorAt m_failedAt m_answer m_isSaved m_lined m_taped m_here m_commandMany, kAr g a_ms 130 m_s, kAr g a_mfar 8 m_far]) [.ref (a_mo 0), .int x1]) (gQi2 post (fun u1 u2 => gB g (List.flatten [kMo g a_mo a_ms a_mwas a_mtried a_msaved a_mpast a_mfar a_mdrift a_mline a_mtape a_mcommands m_changes m_thrown m_errorAt m_failedAt m_answer m_isSaved m_lined m_taped m_here m_commandMany, kAr g a_ms 130 m_s, kAr g a_mfar 8 m_far]) sz (List.flatten [kMo g a_mo a_ms a_mwas a_mtried a_msaved a_mpast a_mfar a_mdrift a_mline a_mtape a_mcommands m_changes m_thrown m_errorAt m_failedAt m_answer m_isSaved m_lined m_taped m_here m_commandMany, kAr g a_ms 130 u1, kAr g a_mfar 8 u2])) (va_A (List.flatten [kMo g a_mo a_ms a_mwas a_mtried a_msaved a_mpast a_mfar a_mdrift a_mline a_mtape a_mcommands m_changes m_thrown m_errorAt m_failedAt m_answer m_isSaved m_lined m_taped m_here m_commandMany, kAr g a_ms 130 m_s, kAr g a_mfar 8 m_far]) sz)) 0 0 (va_A (List.flatten [kMo g a_mo a_ms a_mwas a_mtried a_msaved a_mpast a_mfar a_mdrift a_mline a_mtape a_mcommands m_changes m_thrown m_errorAt m_failedAt m_answer m_isSaved m_lined m_taped m_here m_commandMany, kAr g a_ms 130 m_s, kAr g a_mfar 8 m_far]) sz) := by
  refine gOf (cc := cX7_ploughMinute) (maxL := 3) (ret := (some .int)) (by decide) rfl (Nat.le_of_ble_eq_true rfl) ?_
  intro p e s m below meth c ls Q A hQ hx hb hr hml hts hown hlocks hE hA0 hsz hP hD hA hS hl
  have hl : lv_has ls 3 [(0, .ref (a_mo 0)), (1, .int x1)] := hl
  have J23 : ∀ (m_s_23 : Nat → Int32) (m_far_23 : Nat → Int32) (H : Heap) (locs : List Loc) (ls : Array Slot), wpX7_ploughMinute_L23 x1 post m_s_23 m_far_23 → va_P g.1 vwCl (List.flatten [kMo g a_mo a_ms a_mwas a_mtried a_msaved a_mpast a_mfar a_mdrift a_mline a_mtape a_mcommands m_changes m_thrown m_errorAt m_failedAt m_answer m_isSaved m_lined m_taped m_here m_commandMany, kAr g a_ms 130 m_s_23, kAr g a_mfar 8 m_far_23]) H → va_D A (List.flatten [kMo g a_mo a_ms a_mwas a_mtried a_msaved a_mpast a_mfar a_mdrift a_mline a_mtape a_mcommands m_changes m_thrown m_errorAt m_failedAt m_answer m_isSaved m_lined m_taped m_here m_commandMany, kAr g a_ms 130 m_s_23, kAr g a_mfar 8 m_far_23]) → va_S A s.heap H locs → lv_has ls 3 [(0, .ref (a_mo 0)), (1, .int x1)] → W p l e rmX7_ploughMinute s m (([.ref (a_mo 0), .int x1] : List Value).toArray) below meth c H locs 0 0 Q (F0 m 23 ls []) := by
    intro m_s_23 m_far_23 H locs ls hw hP hD hS hl
    refine lv_aload_n hx hb dX7_ploughMinute_23 rfl (lv_at hl 0 rfl) ?_
    refine lv_iload_n hx hb dX7_ploughMinute_24 rfl (lv_at hl 1 rfl) ?_
    refine lv_iconst (v := 1) hx hb dX7_ploughMinute_25 (by decide) ?_
    refine gCi0 (gRunV (As := [.int x1, .int 1]) (rest := []) ⟨hx, hb, hml, hown, hts⟩ (ctX7_ofPlough l g a_mo a_ms a_mwas a_mtried a_msaved a_mpast a_mfar a_mdrift a_mline a_mtape a_mcommands _ m_changes m_thrown m_errorAt m_failedAt m_answer m_isSaved m_lined m_taped m_here m_commandMany m_s_23 x1 1 hw) (cwV 2 hts gX7_ploughMinute_X7_ofPlough rfl rfl rfl (by decide +kernel) ⟨Nat.le_of_ble_eq_true rfl, Nat.le_of_ble_eq_true rfl⟩) hE (gSub hP [0, 1]) (gDSub hD [0, 1] rfl) 0 11 rfl rfl rfl rfl rfl hl.1 rfl (lv_room (Nat.le_of_ble_eq_true rfl)) dX7_ploughMinute_26 ⟨Nat.le_of_ble_eq_true rfl, Nat.le_of_ble_eq_true rfl⟩) hP hD hS hA [0, 1] rfl rfl rfl (fun r2 H locs hw hP hD hS => ?_)
    have hP : va_P g.1 vwCl (List.flatten [kMo g a_mo a_ms a_mwas a_mtried a_msaved a_mpast a_mfar a_mdrift a_mline a_mtape a_mcommands m_changes m_thrown m_errorAt m_failedAt m_answer m_isSaved m_lined m_taped m_here m_commandMany, kAr g a_ms 130 m_s_23, kAr g a_mfar 8 m_far_23]) H := hP
    have hD : va_D A (List.flatten [kMo g a_mo a_ms a_mwas a_mtried a_msaved a_mpast a_mfar a_mdrift a_mline a_mtape a_mcommands m_changes m_thrown m_errorAt m_failedAt m_answer m_isSaved m_lined m_taped m_here m_commandMany, kAr g a_ms 130 m_s_23, kAr g a_mfar 8 m_far_23]) := hD
    refine lv_if_ne (tgt := 34) hx hb dX7_ploughMinute_29 (by decide) (fun c_29 => ?_) (fun c_29 => ?_)
    · have hw := hw.1 c_29
      refine lv_aload_n hx hb dX7_ploughMinute_34 rfl (lv_at hl 0 rfl) ?_
      refine lv_iload_n hx hb dX7_ploughMinute_35 rfl (lv_at hl 1 rfl) ?_
      refine lv_iconst (v := 1) hx hb dX7_ploughMinute_36 (by decide) ?_
      refine lv_aload_n hx hb dX7_ploughMinute_37 rfl (lv_at hl 0 rfl) ?_
      refine lv_iload_n hx hb dX7_ploughMinute_38 rfl (lv_at hl 1 rfl) ?_
      refine lv_iconst (v := 1) hx hb dX7_ploughMinute_39 (by decide) ?_
      refine gCi0 (gRunV (As := [.int x1, .int 1]) (rest := [.int 1, .int x1, .ref (a_mo 0)]) ⟨hx, hb, hml, hown, hts⟩ (ctX7_ofPlough l g a_mo a_ms a_mwas a_mtried a_msaved a_mpast a_mfar a_mdrift a_mline a_mtape a_mcommands _ m_changes m_thrown m_errorAt m_failedAt m_answer m_isSaved m_lined m_taped m_here m_commandMany m_s_23 x1 1 hw) (cwV 2 hts gX7_ploughMinute_X7_ofPlough rfl rfl rfl (by decide +kernel) ⟨Nat.le_of_ble_eq_true rfl, Nat.le_of_ble_eq_true rfl⟩) hE (gSub hP [0, 1]) (gDSub hD [0, 1] rfl) 0 11 rfl rfl rfl rfl rfl hl.1 rfl (lv_room (Nat.le_of_ble_eq_true rfl)) dX7_ploughMinute_40 ⟨Nat.le_of_ble_eq_true rfl, Nat.le_of_ble_eq_true rfl⟩) hP hD hS hA [0, 1] rfl rfl rfl (fun r3 H locs hw hP hD hS => ?_)
      have hP : va_P g.1 vwCl (List.flatten [kMo g a_mo a_ms a_mwas a_mtried a_msaved a_mpast a_mfar a_mdrift a_mline a_mtape a_mcommands m_changes m_thrown m_errorAt m_failedAt m_answer m_isSaved m_lined m_taped m_here m_commandMany, kAr g a_ms 130 m_s_23, kAr g a_mfar 8 m_far_23]) H := hP
      have hD : va_D A (List.flatten [kMo g a_mo a_ms a_mwas a_mtried a_msaved a_mpast a_mfar a_mdrift a_mline a_mtape a_mcommands m_changes m_thrown m_errorAt m_failedAt m_answer m_isSaved m_lined m_taped m_here m_commandMany, kAr g a_ms 130 m_s_23, kAr g a_mfar 8 m_far_23]) := hD
      refine lv_iconst (v := 1) hx hb dX7_ploughMinute_43 (by decide) ?_
      refine lv_isub hx hb dX7_ploughMinute_44 ?_
      refine gCv1 (gRunV (As := [.int x1, .int 1, .int (r3 - 1)]) (rest := []) ⟨hx, hb, hml, hown, hts⟩ (ctX7_setsPlough l g a_mo a_ms a_mwas a_mtried a_msaved a_mpast a_mfar a_mdrift a_mline a_mtape a_mcommands _ m_changes m_thrown m_errorAt m_failedAt m_answer m_isSaved m_lined m_taped m_here m_commandMany m_s_23 x1 1 (r3 - 1) hw) (cwV 3 hts gX7_ploughMinute_X7_setsPlough rfl rfl rfl (by decide +kernel) ⟨Nat.le_of_ble_eq_true rfl, Nat.le_of_ble_eq_true rfl⟩) hE (gSub hP [0, 1]) (gDSub hD [0, 1] rfl) 0 11 rfl rfl rfl rfl rfl hl.1 rfl (lv_room (Nat.le_of_ble_eq_true rfl)) dX7_ploughMinute_45 ⟨Nat.le_of_ble_eq_true rfl, Nat.le_of_ble_eq_true rfl⟩) hP hD hS hA [0, 1] rfl (fun _ => rfl) rfl (fun m_s_v4 H locs hw hP hD hS => ?_)
      have hP : va_P g.1 vwCl (List.flatten [kMo g a_mo a_ms a_mwas a_mtried a_msaved a_mpast a_mfar a_mdrift a_mline a_mtape a_mcommands m_changes m_thrown m_errorAt m_failedAt m_answer m_isSaved m_lined m_taped m_here m_commandMany, kAr g a_ms 130 m_s_v4, kAr g a_mfar 8 m_far_23]) H := hP
      have hD : va_D A (List.flatten [kMo g a_mo a_ms a_mwas a_mtried a_msaved a_mpast a_mfar a_mdrift a_mline a_mtape a_mcommands m_changes m_thrown m_errorAt m_failedAt m_answer m_isSaved m_lined m_taped m_here m_commandMany, kAr g a_ms 130 m_s_v4, kAr g a_mfar 8 m_far_23]) := hD
      refine lv_aload_n hx hb dX7_ploughMinute_48 rfl (lv_at hl 0 rfl) ?_
      refine lv_iload_n hx hb dX7_ploughMinute_49 rfl (lv_at hl 1 rfl) ?_
      refine lv_iconst (v := 1) hx hb dX7_ploughMinute_50 (by decide) ?_
      refine gCi0 (gRunV (As := [.int x1, .int 1]) (rest := []) ⟨hx, hb, hml, hown, hts⟩ (ctX7_ofPlough l g a_mo a_ms a_mwas a_mtried a_msaved a_mpast a_mfar a_mdrift a_mline a_mtape a_mcommands _ m_changes m_thrown m_errorAt m_failedAt m_answer m_isSaved m_lined m_taped m_here m_commandMany m_s_v4 x1 1 hw) (cwV 2 hts gX7_ploughMinute_X7_ofPlough rfl rfl rfl (by decide +kernel) ⟨Nat.le_of_ble_eq_true rfl, Nat.le_of_ble_eq_true rfl⟩) hE (gSub hP [0, 1]) (gDSub hD [0, 1] rfl) 0 11 rfl rfl rfl rfl rfl hl.1 rfl (lv_room (Nat.le_of_ble_eq_true rfl)) dX7_ploughMinute_51 ⟨Nat.le_of_ble_eq_true rfl, Nat.le_of_ble_eq_true rfl⟩) hP hD hS hA [0, 1] rfl rfl rfl (fun r5 H locs hw hP hD hS => ?_)
      have hP : va_P g.1 vwCl (List.flatten [kMo g a_mo a_ms a_mwas a_mtried a_msaved a_mpast a_mfar a_mdrift a_mline a_mtape a_mcommands m_changes m_thrown m_errorAt m_failedAt m_answer m_isSaved m_lined m_taped m_here m_commandMany, kAr g a_ms 130 m_s_v4, kAr g a_mfar 8 m_far_23]) H := hP
      have hD : va_D A (List.flatten [kMo g a_mo a_ms a_mwas a_mtried a_msaved a_mpast a_mfar a_mdrift a_mline a_mtape a_mcommands m_changes m_thrown m_errorAt m_failedAt m_answer m_isSaved m_lined m_taped m_here m_commandMany, kAr g a_ms 130 m_s_v4, kAr g a_mfar 8 m_far_23]) := hD
      refine lv_if_le (tgt := 59) hx hb dX7_ploughMinute_54 (by decide) (fun c_54 => ?_) (fun c_54 => ?_)
      · have hw := hw.1 c_54
        refine lv_aload_n hx hb dX7_ploughMinute_59 rfl (lv_at hl 0 rfl) ?_
        refine lv_iload_n hx hb dX7_ploughMinute_60 rfl (lv_at hl 1 rfl) ?_
        refine lv_iconst (v := 2) hx hb dX7_ploughMinute_61 (by decide) ?_
        refine gCi0 (gRunV (As := [.int x1, .int 2]) (rest := []) ⟨hx, hb, hml, hown, hts⟩ (ctX7_ofPlough l g a_mo a_ms a_mwas a_mtried a_msaved a_mpast a_mfar a_mdrift a_mline a_mtape a_mcommands _ m_changes m_thrown m_errorAt m_failedAt m_answer m_isSaved m_lined m_taped m_here m_commandMany m_s_v4 x1 2 hw) (cwV 2 hts gX7_ploughMinute_X7_ofPlough rfl rfl rfl (by decide +kernel) ⟨Nat.le_of_ble_eq_true rfl, Nat.le_of_ble_eq_true rfl⟩) hE (gSub hP [0, 1]) (gDSub hD [0, 1] rfl) 0 11 rfl rfl rfl rfl rfl hl.1 rfl (lv_room (Nat.le_of_ble_eq_true rfl)) dX7_ploughMinute_62 ⟨Nat.le_of_ble_eq_true rfl, Nat.le_of_ble_eq_true rfl⟩) hP hD hS hA [0, 1] rfl rfl rfl (fun r6 H locs hw hP hD hS => ?_)
        have hP : va_P g.1 vwCl (List.flatten [kMo g a_mo a_ms a_mwas a_mtried a_msaved a_mpast a_mfar a_mdrift a_mline a_mtape a_mcommands m_changes m_thrown m_errorAt m_failedAt m_answer m_isSaved m_lined m_taped m_here m_commandMany, kAr g a_ms 130 m_s_v4, kAr g a_mfar 8 m_far_23]) H := hP
        have hD : va_D A (List.flatten [kMo g a_mo a_ms a_mwas a_mtried a_msaved a_mpast a_mfar a_mdrift a_mline a_mtape a_mcommands m_changes m_thrown m_errorAt m_failedAt m_answer m_isSaved m_lined m_taped m_here m_commandMany, kAr g a_ms 130 m_s_v4, kAr g a_mfar 8 m_far_23]) := hD
        refine lv_istore_n (lv' := [(2, .int r6), (0, .ref (a_mo 0)), (1, .int x1)]) hx hb dX7_ploughMinute_65 rfl hl (by decide) rfl (fun ls hl => ?_)
        refine lv_aload_n hx hb dX7_ploughMinute_66 rfl (lv_at hl 1 rfl) ?_
        refine lv_iload_n hx hb dX7_ploughMinute_67 rfl (lv_at hl 2 rfl) ?_
        refine gCv1 (gRunV (As := [.int x1]) (rest := []) ⟨hx, hb, hml, hown, hts⟩ (ctX7_clears l g a_mo a_ms a_mwas a_mtried a_msaved a_mpast a_mfar a_mdrift a_mline a_mtape a_mcommands _ m_changes m_thrown m_errorAt m_failedAt m_answer m_isSaved m_lined m_taped m_here m_commandMany m_s_v4 x1 hw) (cwV 1 hts gX7_ploughMinute_X7_clears rfl rfl rfl (by decide +kernel) ⟨Nat.le_of_ble_eq_true rfl, Nat.le_of_ble_eq_true rfl⟩) hE (gSub hP [0, 1]) (gDSub hD [0, 1] rfl) 0 11 rfl rfl rfl rfl rfl hl.1 rfl (lv_room (Nat.le_of_ble_eq_true rfl)) dX7_ploughMinute_68 ⟨Nat.le_of_ble_eq_true rfl, Nat.le_of_ble_eq_true rfl⟩) hP hD hS hA [0, 1] rfl (fun _ => rfl) rfl (fun m_s_v7 H locs hw hP hD hS => ?_)
        have hP : va_P g.1 vwCl (List.flatten [kMo g a_mo a_ms a_mwas a_mtried a_msaved a_mpast a_mfar a_mdrift a_mline a_mtape a_mcommands m_changes m_thrown m_errorAt m_failedAt m_answer m_isSaved m_lined m_taped m_here m_commandMany, kAr g a_ms 130 m_s_v7, kAr g a_mfar 8 m_far_23]) H := hP
        have hD : va_D A (List.flatten [kMo g a_mo a_ms a_mwas a_mtried a_msaved a_mpast a_mfar a_mdrift a_mline a_mtape a_mcommands m_changes m_thrown m_errorAt m_failedAt m_answer m_isSaved m_lined m_taped m_here m_commandMany, kAr g a_ms 130 m_s_v7, kAr g a_mfar 8 m_far_23]) := hD
        refine lv_iload_n hx hb dX7_ploughMinute_71 rfl (lv_at hl 0 rfl) ?_
        subst hQ
        exact W.iret hx hb hr (gRi2 (c1 := m_s_v7) (c2 := m_far_23) (wf := _) hA0 hsz hw hP hD hS) hS.2.2 dX7_ploughMinute_72
      · have hw := hw.2 c_54
        refine lv_iconst (v := (-1)) hx hb dX7_ploughMinute_57 (by decide) ?_
        subst hQ
        exact W.iret hx hb hr (gRi2 (c1 := m_s_v4) (c2 := m_far_23) (wf := _) hA0 hsz hw hP hD hS) hS.2.2 dX7_ploughMinute_58
    · have hw := hw.2 c_29
      refine lv_iconst (v := (-1)) hx hb dX7_ploughMinute_32 (by decide) ?_
      subst hQ
      exact W.iret hx hb hr (gRi2 (c1 := m_s_23) (c2 := m_far_23) (wf := _) hA0 hsz hw hP hD hS) hS.2.2 dX7_ploughMinute_33
  refine lv_aload_n hx hb dX7_ploughMinute_0 rfl (lv_at hl 0 rfl) ?_
  refine lv_iload_n hx hb dX7_ploughMinute_1 rfl (lv_at hl 1 rfl) ?_
  refine lv_iconst (v := 1) hx hb dX7_ploughMinute_2 (by decide) ?_
  refine gCi0 (gRunV (As := [.int x1, .int 1]) (rest := []) ⟨hx, hb, hml, hown, hts⟩ (ctX7_ofPlough l g a_mo a_ms a_mwas a_mtried a_msaved a_mpast a_mfar a_mdrift a_mline a_mtape a_mcommands _ m_changes m_thrown m_errorAt m_failedAt m_answer m_isSaved m_lined m_taped m_here m_commandMany m_s x1 1 hw) (cwV 2 hts gX7_ploughMinute_X7_ofPlough rfl rfl rfl (by decide +kernel) ⟨Nat.le_of_ble_eq_true rfl, Nat.le_of_ble_eq_true rfl⟩) hE (gSub hP [0, 1]) (gDSub hD [0, 1] rfl) 0 11 rfl rfl rfl rfl rfl hl.1 rfl (lv_room (Nat.le_of_ble_eq_true rfl)) dX7_ploughMinute_3 ⟨Nat.le_of_ble_eq_true rfl, Nat.le_of_ble_eq_true rfl⟩) hP hD hS hA [0, 1] rfl rfl rfl (fun r1 H locs hw hP hD hS => ?_)
  have hP : va_P g.1 vwCl (List.flatten [kMo g a_mo a_ms a_mwas a_mtried a_msaved a_mpast a_mfar a_mdrift a_mline a_mtape a_mcommands m_changes m_thrown m_errorAt m_failedAt m_answer m_isSaved m_lined m_taped m_here m_commandMany, kAr g a_ms 130 m_s, kAr g a_mfar 8 m_far]) H := hP
  have hD : va_D A (List.flatten [kMo g a_mo a_ms a_mwas a_mtried a_msaved a_mpast a_mfar a_mdrift a_mline a_mtape a_mcommands m_changes m_thrown m_errorAt m_failedAt m_answer m_isSaved m_lined m_taped m_here m_commandMany, kAr g a_ms 130 m_s, kAr g a_mfar 8 m_far]) := hD
  refine lv_if_ne (tgt := 23) hx hb dX7_ploughMinute_6 (by decide) (fun c_6 => ?_) (fun c_6 => ?_)
  · have hw := hw.1 c_6
    exact J23 m_s m_far _ _ _ hw hP hD hS (lv_sub hl [0, 1] rfl)
  · have hw := hw.2 c_6
    refine lv_aload_n hx hb dX7_ploughMinute_9 rfl (lv_at hl 0 rfl) ?_
    refine lv_iload_n hx hb dX7_ploughMinute_10 rfl (lv_at hl 1 rfl) ?_
    refine lv_iconst (v := 3) hx hb dX7_ploughMinute_11 (by decide) ?_
    refine gCi0 (gRunV (As := [.int x1, .int 3]) (rest := []) ⟨hx, hb, hml, hown, hts⟩ (ctX7_ofPlough l g a_mo a_ms a_mwas a_mtried a_msaved a_mpast a_mfar a_mdrift a_mline a_mtape a_mcommands _ m_changes m_thrown m_errorAt m_failedAt m_answer m_isSaved m_lined m_taped m_here m_commandMany m_s x1 3 hw) (cwV 2 hts gX7_ploughMinute_X7_ofPlough rfl rfl rfl (by decide +kernel) ⟨Nat.le_of_ble_eq_true rfl, Nat.le_of_ble_eq_true rfl⟩) hE (gSub hP [0, 1]) (gDSub hD [0, 1] rfl) 0 11 rfl rfl rfl rfl rfl hl.1 rfl (lv_room (Nat.le_of_ble_eq_true rfl)) dX7_ploughMinute_12 ⟨Nat.le_of_ble_eq_true rfl, Nat.le_of_ble_eq_true rfl⟩) hP hD hS hA [0, 1] rfl rfl rfl (fun r8 H locs hw hP hD hS => ?_)
    have hP : va_P g.1 vwCl (List.flatten [kMo g a_mo a_ms a_mwas a_mtried a_msaved a_mpast a_mfar a_mdrift a_mline a_mtape a_mcommands m_changes m_thrown m_errorAt m_failedAt m_answer m_isSaved m_lined m_taped m_here m_commandMany, kAr g a_ms 130 m_s, kAr g a_mfar 8 m_far]) H := hP
    have hD : va_D A (List.flatten [kMo g a_mo a_ms a_mwas a_mtried a_msaved a_mpast a_mfar a_mdrift a_mline a_mtape a_mcommands m_changes m_thrown m_errorAt m_failedAt m_answer m_isSaved m_lined m_taped m_here m_commandMany, kAr g a_ms 130 m_s, kAr g a_mfar 8 m_far]) := hD
    refine lv_if_le (tgt := 23) hx hb dX7_ploughMinute_15 (by decide) (fun c_15 => ?_) (fun c_15 => ?_)
    · have hw := hw.1 c_15
      exact J23 m_s m_far _ _ _ hw hP hD hS (lv_sub hl [0, 1] rfl)
    · have hw := hw.2 c_15
      refine lv_aload_n hx hb dX7_ploughMinute_18 rfl (lv_at hl 0 rfl) ?_
      refine lv_iload_n hx hb dX7_ploughMinute_19 rfl (lv_at hl 1 rfl) ?_
      refine gCv2 (gRunV (As := [.int x1]) (rest := []) ⟨hx, hb, hml, hown, hts⟩ (ctX7_takes l g a_mo a_ms a_mwas a_mtried a_msaved a_mpast a_mfar a_mdrift a_mline a_mtape a_mcommands _ m_changes m_thrown m_errorAt m_failedAt m_answer m_isSaved m_lined m_taped m_here m_commandMany m_s m_far x1 hw) (cwV 1 hts gX7_ploughMinute_X7_takes rfl rfl rfl (by decide +kernel) ⟨Nat.le_of_ble_eq_true rfl, Nat.le_of_ble_eq_true rfl⟩) hE (gSub hP [0, 1, 2]) (gDSub hD [0, 1, 2] rfl) 0 11 rfl rfl rfl rfl rfl hl.1 rfl (lv_room (Nat.le_of_ble_eq_true rfl)) dX7_ploughMinute_20 ⟨Nat.le_of_ble_eq_true rfl, Nat.le_of_ble_eq_true rfl⟩) hP hD hS hA [0, 1, 2] rfl (fun _ _ => rfl) rfl (fun m_s_v9 m_far_v9 H locs hw hP hD hS => ?_)
      have hP : va_P g.1 vwCl (List.flatten [kMo g a_mo a_ms a_mwas a_mtried a_msaved a_mpast a_mfar a_mdrift a_mline a_mtape a_mcommands m_changes m_thrown m_errorAt m_failedAt m_answer m_isSaved m_lined m_taped m_here m_commandMany, kAr g a_ms 130 m_s_v9, kAr g a_mfar 8 m_far_v9]) H := hP
      have hD : va_D A (List.flatten [kMo g a_mo a_ms a_mwas a_mtried a_msaved a_mpast a_mfar a_mdrift a_mline a_mtape a_mcommands m_changes m_thrown m_errorAt m_failedAt m_answer m_isSaved m_lined m_taped m_here m_commandMany, kAr g a_ms 130 m_s_v9, kAr g a_mfar 8 m_far_v9]) := hD
      exact J23 m_s_v9 m_far_v9 _ _ _ hw hP hD hS (lv_sub hl [0, 1] rfl)
abbrev rmX7_drifts : Room := { frames := 2, cells := 0, slots := 0, locals := 124 }
set_option maxRecDepth 20000 in
theorem inX7_drifts_X7 : ∀ w ∈ wsX70, w ∈ wsX7_drifts := by decide +kernel
set_option maxHeartbeats 4000000 in
set_option maxRecDepth 100000 in
theorem ctX7_drifts (l : Launch) (g : GG) (a_mo : Nat → Nat) (a_ms : Nat → Nat) (a_mwas : Nat → Nat) (a_mtried : Nat → Nat) (a_msaved : Nat → Nat) (a_mpast : Nat → Nat) (a_mfar : Nat → Nat) (a_mdrift : Nat → Nat) (a_mline : Nat → Nat) (a_mtape : Nat → Nat) (a_mcommands : Nat → Nat) (sz : Nat) (m_changes : Int32) (m_thrown : Int32) (m_errorAt : Int32) (m_failedAt : Int32) (m_answer : Int32) (m_isSaved : Int32) (m_lined : Int32) (m_taped : Int32) (m_here : Int32) (m_commandMany : Int32) (m_s : Nat → Int32) (m_drift : Nat → Int32) {post : (Nat → Int32) → (Nat → Int32) → Prop} (hw : wpX7_drifts m_s m_drift post) :
    Met l yX7_drifts wsX7_drifts rmX7_drifts (gPc g sz (List.flatten [kMo g a_mo a_ms a_mwas a_mtried a_msaved a_mpast a_mfar a_mdrift a_mline a_mtape a_mcommands m_changes m_thrown m_errorAt m_failedAt m_answer m_isSaved m_lined m_taped m_here m_commandMany, kAr g a_ms 130 m_s, kAr g a_mdrift 12 m_drift]) [.ref (a_mo 0)]) (gQv2 post (fun u1 u2 => gB g (List.flatten [kMo g a_mo a_ms a_mwas a_mtried a_msaved a_mpast a_mfar a_mdrift a_mline a_mtape a_mcommands m_changes m_thrown m_errorAt m_failedAt m_answer m_isSaved m_lined m_taped m_here m_commandMany, kAr g a_ms 130 m_s, kAr g a_mdrift 12 m_drift]) sz (List.flatten [kMo g a_mo a_ms a_mwas a_mtried a_msaved a_mpast a_mfar a_mdrift a_mline a_mtape a_mcommands m_changes m_thrown m_errorAt m_failedAt m_answer m_isSaved m_lined m_taped m_here m_commandMany, kAr g a_ms 130 u1, kAr g a_mdrift 12 u2])) (va_A (List.flatten [kMo g a_mo a_ms a_mwas a_mtried a_msaved a_mpast a_mfar a_mdrift a_mline a_mtape a_mcommands m_changes m_thrown m_errorAt m_failedAt m_answer m_isSaved m_lined m_taped m_here m_commandMany, kAr g a_ms 130 m_s, kAr g a_mdrift 12 m_drift]) sz)) 0 0 (va_A (List.flatten [kMo g a_mo a_ms a_mwas a_mtried a_msaved a_mpast a_mfar a_mdrift a_mline a_mtape a_mcommands m_changes m_thrown m_errorAt m_failedAt m_answer m_isSaved m_lined m_taped m_here m_commandMany, kAr g a_ms 130 m_s, kAr g a_mdrift 12 m_drift]) sz) := by
  refine gOf (cc := cX7_drifts) (maxL := 5) (ret := none) (by decide) rfl (Nat.le_of_ble_eq_true rfl) ?_
  intro p e s m below meth c ls Q A hQ hx hb hr hml hts hown hlocks hE hA0 hsz hP hD hA hS hl
  have hl : lv_has ls 5 [(0, .ref (a_mo 0))] := hl
  have L45 : ∀ (n : Nat) (x1_45 : Int32) (m_drift_45 : Nat → Int32) (x2_45 : Int32) (m_s_45 : Nat → Int32) (H : Heap) (locs : List Loc) (ls : Array Slot), wpX7_drifts_L45 x1_45 m_drift_45 post n x2_45 m_s_45 → va_P g.1 vwCl (List.flatten [kMo g a_mo a_ms a_mwas a_mtried a_msaved a_mpast a_mfar a_mdrift a_mline a_mtape a_mcommands m_changes m_thrown m_errorAt m_failedAt m_answer m_isSaved m_lined m_taped m_here m_commandMany, kAr g a_ms 130 m_s_45, kAr g a_mdrift 12 m_drift_45]) H → va_D A (List.flatten [kMo g a_mo a_ms a_mwas a_mtried a_msaved a_mpast a_mfar a_mdrift a_mline a_mtape a_mcommands m_changes m_thrown m_errorAt m_failedAt m_answer m_isSaved m_lined m_taped m_here m_commandMany, kAr g a_ms 130 m_s_45, kAr g a_mdrift 12 m_drift_45]) → va_S A s.heap H locs → lv_has ls 5 [(0, .ref (a_mo 0)), (1, .int x1_45), (2, .int x2_45)] → W p l e rmX7_drifts s m (([.ref (a_mo 0)] : List Value).toArray) below meth c H locs 0 0 Q (F0 m 45 ls []) := by
    intro n_45
    induction n_45 with
    | zero => intro x1_45 m_drift_45 x2_45 m_s_45 H locs ls hw; exact False.elim hw
    | succ n_45 ih_45 =>
      intro x1_45 m_drift_45 x2_45 m_s_45 H locs ls hw hP hD hS hl
      have J68 : ∀ (z0_68 : Int32) (x2_68 : Int32) (m_s_68 : Nat → Int32) (H : Heap) (locs : List Loc) (ls : Array Slot), wpX7_drifts_L68 x1_45 m_drift_45 (wpX7_drifts_L45 x1_45 m_drift_45 post n_45) post z0_68 x2_68 m_s_68 → va_P g.1 vwCl (List.flatten [kMo g a_mo a_ms a_mwas a_mtried a_msaved a_mpast a_mfar a_mdrift a_mline a_mtape a_mcommands m_changes m_thrown m_errorAt m_failedAt m_answer m_isSaved m_lined m_taped m_here m_commandMany, kAr g a_ms 130 m_s_68, kAr g a_mdrift 12 m_drift_45]) H → va_D A (List.flatten [kMo g a_mo a_ms a_mwas a_mtried a_msaved a_mpast a_mfar a_mdrift a_mline a_mtape a_mcommands m_changes m_thrown m_errorAt m_failedAt m_answer m_isSaved m_lined m_taped m_here m_commandMany, kAr g a_ms 130 m_s_68, kAr g a_mdrift 12 m_drift_45]) → va_S A s.heap H locs → lv_has ls 5 [(0, .ref (a_mo 0)), (1, .int x1_45), (2, .int x2_68)] → W p l e rmX7_drifts s m (([.ref (a_mo 0)] : List Value).toArray) below meth c H locs 0 0 Q (F0 m 68 ls [.int z0_68]) := by
        intro z0_68 x2_68 m_s_68 H locs ls hw hP hD hS hl
        refine lv_istore_n (lv' := [(3, .int z0_68), (0, .ref (a_mo 0)), (1, .int x1_45), (2, .int x2_68)]) hx hb dX7_drifts_68 rfl hl (by decide) rfl (fun ls hl => ?_)
        refine lv_aload_n hx hb dX7_drifts_69 rfl (lv_at hl 1 rfl) ?_
        refine lv_iload_n hx hb dX7_drifts_70 rfl (lv_at hl 3 rfl) ?_
        refine lv_iconst (v := 4) hx hb dX7_drifts_71 (by decide) ?_
        refine gCi0 (gRunV (As := [.int x2_68, .int 4]) (rest := []) ⟨hx, hb, hml, hown, hts⟩ (ctX7_of l g a_mo a_ms a_mwas a_mtried a_msaved a_mpast a_mfar a_mdrift a_mline a_mtape a_mcommands _ m_changes m_thrown m_errorAt m_failedAt m_answer m_isSaved m_lined m_taped m_here m_commandMany m_s_68 x2_68 4 hw) (cwV 2 hts gX7_drifts_X7_of rfl rfl rfl (by decide +kernel) ⟨Nat.le_of_ble_eq_true rfl, Nat.le_of_ble_eq_true rfl⟩) hE (gSub hP [0, 1]) (gDSub hD [0, 1] rfl) 0 11 rfl rfl rfl rfl rfl hl.1 rfl (lv_room (Nat.le_of_ble_eq_true rfl)) dX7_drifts_72 ⟨Nat.le_of_ble_eq_true rfl, Nat.le_of_ble_eq_true rfl⟩) hP hD hS hA [0, 1] rfl rfl rfl (fun r2 H locs hw hP hD hS => ?_)
        have hP : va_P g.1 vwCl (List.flatten [kMo g a_mo a_ms a_mwas a_mtried a_msaved a_mpast a_mfar a_mdrift a_mline a_mtape a_mcommands m_changes m_thrown m_errorAt m_failedAt m_answer m_isSaved m_lined m_taped m_here m_commandMany, kAr g a_ms 130 m_s_68, kAr g a_mdrift 12 m_drift_45]) H := hP
        have hD : va_D A (List.flatten [kMo g a_mo a_ms a_mwas a_mtried a_msaved a_mpast a_mfar a_mdrift a_mline a_mtape a_mcommands m_changes m_thrown m_errorAt m_failedAt m_answer m_isSaved m_lined m_taped m_here m_commandMany, kAr g a_ms 130 m_s_68, kAr g a_mdrift 12 m_drift_45]) := hD
        refine lv_aload_n hx hb dX7_drifts_75 rfl (lv_at hl 1 rfl) ?_
        refine va_get (D := g.1) (ci := 11) (v := .ref (a_mdrift 0)) (C := RX7) (T := TX7) (N := 20) hx hb hts inX7_drifts_X7 hown hE.1 hP 0 rfl rfl 6 (by decide) (gW hts 2 (.fieldLink RX7 28 "SnowDispatcherModel" "drift" "[I") rfl) (fun _ h9 => h9) rfl dX7_drifts_76 ?_
        refine lv_iload_n hx hb dX7_drifts_79 rfl (lv_at hl 3 rfl) ?_
        have h3 := hw.1
        have hw := hw.2
        refine va_iald hx hb hE.1 hP 2 0 rfl rfl h3 dX7_drifts_80 ?_
        refine lv_isub hx hb dX7_drifts_81 ?_
        refine lv_aload_n hx hb dX7_drifts_82 rfl (lv_at hl 1 rfl) ?_
        refine va_get (D := g.1) (ci := 11) (v := .ref (a_mdrift 0)) (C := RX7) (T := TX7) (N := 20) hx hb hts inX7_drifts_X7 hown hE.1 hP 0 rfl rfl 6 (by decide) (gW hts 2 (.fieldLink RX7 28 "SnowDispatcherModel" "drift" "[I") rfl) (fun _ h9 => h9) rfl dX7_drifts_83 ?_
        refine lv_iload_n hx hb dX7_drifts_86 rfl (lv_at hl 0 rfl) ?_
        have h4 := hw.1
        have hw := hw.2
        refine va_iald hx hb hE.1 hP 2 0 rfl rfl h4 dX7_drifts_87 ?_
        refine lv_iadd hx hb dX7_drifts_88 ?_
        refine lv_istore (lv' := [(4, .int ((r2 - (m_drift_45 x2_68.toNatClampNeg)) + (m_drift_45 z0_68.toNatClampNeg))), (3, .int z0_68), (0, .ref (a_mo 0)), (1, .int x1_45), (2, .int x2_68)]) hx hb dX7_drifts_89 hl (by decide) rfl (fun ls hl => ?_)
        refine lv_aload_n hx hb dX7_drifts_91 rfl (lv_at hl 2 rfl) ?_
        refine lv_iload_n hx hb dX7_drifts_92 rfl (lv_at hl 4 rfl) ?_
        refine lv_iconst (v := 4) hx hb dX7_drifts_93 (by decide) ?_
        refine lv_sipush (v := 200) hx hb dX7_drifts_94 (by decide) ?_
        refine lv_iload hx hb dX7_drifts_97 (lv_at hl 0 rfl) ?_
        refine gCi0 (gRunS (As := [.int 200, .int ((r2 - (m_drift_45 x2_68.toNatClampNeg)) + (m_drift_45 z0_68.toNatClampNeg))]) (rest := [.int 4, .int x2_68, .ref (a_mo 0)]) ⟨hx, hb, hml, hown, hts⟩ (ctX7_lesser l g _ 200 ((r2 - (m_drift_45 x2_68.toNatClampNeg)) + (m_drift_45 z0_68.toNatClampNeg)) hw) (va_cwS 2 hts gX7_drifts_X7_lesser rfl rfl rfl (by decide +kernel) ⟨Nat.le_of_ble_eq_true rfl, Nat.le_of_ble_eq_true rfl⟩) hE (gSub hP []) (gDSub hD [] rfl) rfl rfl hl.1 rfl (lv_room (Nat.le_of_ble_eq_true rfl)) dX7_drifts_99 ⟨Nat.le_of_ble_eq_true rfl, Nat.le_of_ble_eq_true rfl⟩) hP hD hS hA [] rfl rfl rfl (fun r5 H locs hw hP hD hS => ?_)
        have hP : va_P g.1 vwCl (List.flatten [kMo g a_mo a_ms a_mwas a_mtried a_msaved a_mpast a_mfar a_mdrift a_mline a_mtape a_mcommands m_changes m_thrown m_errorAt m_failedAt m_answer m_isSaved m_lined m_taped m_here m_commandMany, kAr g a_ms 130 m_s_68, kAr g a_mdrift 12 m_drift_45]) H := hP
        have hD : va_D A (List.flatten [kMo g a_mo a_ms a_mwas a_mtried a_msaved a_mpast a_mfar a_mdrift a_mline a_mtape a_mcommands m_changes m_thrown m_errorAt m_failedAt m_answer m_isSaved m_lined m_taped m_here m_commandMany, kAr g a_ms 130 m_s_68, kAr g a_mdrift 12 m_drift_45]) := hD
        refine gCv1 (gRunV (As := [.int x2_68, .int 4, .int r5]) (rest := []) ⟨hx, hb, hml, hown, hts⟩ (ctX7_sets l g a_mo a_ms a_mwas a_mtried a_msaved a_mpast a_mfar a_mdrift a_mline a_mtape a_mcommands _ m_changes m_thrown m_errorAt m_failedAt m_answer m_isSaved m_lined m_taped m_here m_commandMany m_s_68 x2_68 4 r5 hw) (cwV 3 hts gX7_drifts_X7_sets rfl rfl rfl (by decide +kernel) ⟨Nat.le_of_ble_eq_true rfl, Nat.le_of_ble_eq_true rfl⟩) hE (gSub hP [0, 1]) (gDSub hD [0, 1] rfl) 0 11 rfl rfl rfl rfl rfl hl.1 rfl (lv_room (Nat.le_of_ble_eq_true rfl)) dX7_drifts_102 ⟨Nat.le_of_ble_eq_true rfl, Nat.le_of_ble_eq_true rfl⟩) hP hD hS hA [0, 1] rfl (fun _ => rfl) rfl (fun m_s_v6 H locs hw hP hD hS => ?_)
        have hP : va_P g.1 vwCl (List.flatten [kMo g a_mo a_ms a_mwas a_mtried a_msaved a_mpast a_mfar a_mdrift a_mline a_mtape a_mcommands m_changes m_thrown m_errorAt m_failedAt m_answer m_isSaved m_lined m_taped m_here m_commandMany, kAr g a_ms 130 m_s_v6, kAr g a_mdrift 12 m_drift_45]) H := hP
        have hD : va_D A (List.flatten [kMo g a_mo a_ms a_mwas a_mtried a_msaved a_mpast a_mfar a_mdrift a_mline a_mtape a_mcommands m_changes m_thrown m_errorAt m_failedAt m_answer m_isSaved m_lined m_taped m_here m_commandMany, kAr g a_ms 130 m_s_v6, kAr g a_mdrift 12 m_drift_45]) := hD
        refine lv_iinc (v := (x2_68 + 1)) (lv' := [(2, .int (x2_68 + 1)), (4, .int ((r2 - (m_drift_45 x2_68.toNatClampNeg)) + (m_drift_45 z0_68.toNatClampNeg))), (3, .int z0_68), (0, .ref (a_mo 0)), (1, .int x1_45)]) hx hb dX7_drifts_105 hl (k := 4) rfl rfl (by decide) rfl (fun ls hl => ?_)
        refine lv_goto (tgt := 45) hx hb dX7_drifts_108 (by decide) ?_
        exact ih_45 x1_45 m_drift_45 (x2_68 + 1) m_s_v6 _ _ _ hw hP hD hS (lv_sub hl [3, 4, 0] rfl)
      refine lv_iload_n hx hb dX7_drifts_45 rfl (lv_at hl 2 rfl) ?_
      refine lv_iload_n hx hb dX7_drifts_46 rfl (lv_at hl 1 rfl) ?_
      refine lv_icmp_ge (tgt := 111) hx hb dX7_drifts_47 (by decide) (fun c_47 => ?_) (fun c_47 => ?_)
      · have hw := hw.1 c_47
        subst hQ
        exact W.vret hx hb hr (gRv2 (c1 := m_s_45) (c2 := m_drift_45) (wf := _) hA0 hsz hw hP hD hS) hS.2.2 dX7_drifts_111
      · have hw := hw.2 c_47
        refine lv_iload_n hx hb dX7_drifts_50 rfl (lv_at hl 1 rfl) ?_
        refine lv_iconst (v := 1) hx hb dX7_drifts_51 (by decide) ?_
        refine lv_icmp_le (tgt := 111) hx hb dX7_drifts_52 (by decide) (fun c_52 => ?_) (fun c_52 => ?_)
        · have hw := hw.1 c_52
          subst hQ
          exact W.vret hx hb hr (gRv2 (c1 := m_s_45) (c2 := m_drift_45) (wf := _) hA0 hsz hw hP hD hS) hS.2.2 dX7_drifts_111
        · have hw := hw.2 c_52
          refine lv_iload_n hx hb dX7_drifts_55 rfl (lv_at hl 2 rfl) ?_
          refine lv_if_ne (tgt := 65) hx hb dX7_drifts_56 (by decide) (fun c_56 => ?_) (fun c_56 => ?_)
          · have hw := hw.1 c_56
            refine lv_iload_n hx hb dX7_drifts_65 rfl (lv_at hl 2 rfl) ?_
            refine lv_iconst (v := 1) hx hb dX7_drifts_66 (by decide) ?_
            refine lv_isub hx hb dX7_drifts_67 ?_
            exact J68 (x2_45 - 1) x2_45 m_s_45 _ _ _ hw hP hD hS (lv_sub hl [0, 1, 2] rfl)
          · have hw := hw.2 c_56
            refine lv_iload_n hx hb dX7_drifts_59 rfl (lv_at hl 1 rfl) ?_
            refine lv_iconst (v := 1) hx hb dX7_drifts_60 (by decide) ?_
            refine lv_isub hx hb dX7_drifts_61 ?_
            refine lv_goto (tgt := 68) hx hb dX7_drifts_62 (by decide) ?_
            exact J68 (x1_45 - 1) x2_45 m_s_45 _ _ _ hw hP hD hS (lv_sub hl [0, 1, 2] rfl)
  have L9 : ∀ (n : Nat) (x1_9 : Int32) (m_s_9 : Nat → Int32) (x2_9 : Int32) (m_drift_9 : Nat → Int32) (H : Heap) (locs : List Loc) (ls : Array Slot), wpX7_drifts_L9 x1_9 m_s_9 post n x2_9 m_drift_9 → va_P g.1 vwCl (List.flatten [kMo g a_mo a_ms a_mwas a_mtried a_msaved a_mpast a_mfar a_mdrift a_mline a_mtape a_mcommands m_changes m_thrown m_errorAt m_failedAt m_answer m_isSaved m_lined m_taped m_here m_commandMany, kAr g a_ms 130 m_s_9, kAr g a_mdrift 12 m_drift_9]) H → va_D A (List.flatten [kMo g a_mo a_ms a_mwas a_mtried a_msaved a_mpast a_mfar a_mdrift a_mline a_mtape a_mcommands m_changes m_thrown m_errorAt m_failedAt m_answer m_isSaved m_lined m_taped m_here m_commandMany, kAr g a_ms 130 m_s_9, kAr g a_mdrift 12 m_drift_9]) → va_S A s.heap H locs → lv_has ls 5 [(0, .ref (a_mo 0)), (1, .int x1_9), (2, .int x2_9)] → W p l e rmX7_drifts s m (([.ref (a_mo 0)] : List Value).toArray) below meth c H locs 0 0 Q (F0 m 9 ls []) := by
    intro n_9
    induction n_9 with
    | zero => intro x1_9 m_s_9 x2_9 m_drift_9 H locs ls hw; exact False.elim hw
    | succ n_9 ih_9 =>
      intro x1_9 m_s_9 x2_9 m_drift_9 H locs ls hw hP hD hS hl
      refine lv_iload_n hx hb dX7_drifts_9 rfl (lv_at hl 2 rfl) ?_
      refine lv_iload_n hx hb dX7_drifts_10 rfl (lv_at hl 1 rfl) ?_
      refine lv_icmp_ge (tgt := 43) hx hb dX7_drifts_11 (by decide) (fun c_11 => ?_) (fun c_11 => ?_)
      · have hw := hw.1 c_11
        refine lv_iconst (v := 0) hx hb dX7_drifts_43 (by decide) ?_
        refine lv_istore_n (lv' := [(2, .int 0), (0, .ref (a_mo 0)), (1, .int x1_9)]) hx hb dX7_drifts_44 rfl hl (by decide) rfl (fun ls hl => ?_)
        obtain ⟨n, hw⟩ := hw
        exact L45 n x1_9 m_drift_9 0 m_s_9 _ _ _ hw hP hD hS (lv_sub hl [1, 2, 0] rfl)
      · have hw := hw.2 c_11
        refine lv_aload_n hx hb dX7_drifts_14 rfl (lv_at hl 0 rfl) ?_
        refine va_get (D := g.1) (ci := 11) (v := .ref (a_mdrift 0)) (C := RX7) (T := TX7) (N := 20) hx hb hts inX7_drifts_X7 hown hE.1 hP 0 rfl rfl 6 (by decide) (gW hts 2 (.fieldLink RX7 28 "SnowDispatcherModel" "drift" "[I") rfl) (fun _ h9 => h9) rfl dX7_drifts_15 ?_
        refine lv_iload_n hx hb dX7_drifts_18 rfl (lv_at hl 2 rfl) ?_
        refine lv_aload_n hx hb dX7_drifts_19 rfl (lv_at hl 0 rfl) ?_
        refine va_get (D := g.1) (ci := 11) (v := .ref (a_ms 0)) (C := RX7) (T := TX7) (N := 20) hx hb hts inX7_drifts_X7 hown hE.1 hP 0 rfl rfl 0 (by decide) (gW hts 1 (.fieldLink RX7 9 "SnowDispatcherModel" "s" "[I") rfl) (fun _ h9 => h9) rfl dX7_drifts_20 ?_
        refine lv_iconst (v := 5) hx hb dX7_drifts_23 (by decide) ?_
        have h7 := hw.1
        have hw := hw.2
        refine va_iald hx hb hE.1 hP 1 0 rfl rfl h7 dX7_drifts_24 ?_
        refine lv_aload_n hx hb dX7_drifts_25 rfl (lv_at hl 0 rfl) ?_
        refine lv_iload_n hx hb dX7_drifts_26 rfl (lv_at hl 2 rfl) ?_
        refine lv_iconst (v := 4) hx hb dX7_drifts_27 (by decide) ?_
        refine gCi0 (gRunV (As := [.int x2_9, .int 4]) (rest := [.int (m_s_9 (5 : Int32).toNatClampNeg), .int x2_9, .ref (a_mdrift 0)]) ⟨hx, hb, hml, hown, hts⟩ (ctX7_of l g a_mo a_ms a_mwas a_mtried a_msaved a_mpast a_mfar a_mdrift a_mline a_mtape a_mcommands _ m_changes m_thrown m_errorAt m_failedAt m_answer m_isSaved m_lined m_taped m_here m_commandMany m_s_9 x2_9 4 hw) (cwV 2 hts gX7_drifts_X7_of rfl rfl rfl (by decide +kernel) ⟨Nat.le_of_ble_eq_true rfl, Nat.le_of_ble_eq_true rfl⟩) hE (gSub hP [0, 1]) (gDSub hD [0, 1] rfl) 0 11 rfl rfl rfl rfl rfl hl.1 rfl (lv_room (Nat.le_of_ble_eq_true rfl)) dX7_drifts_28 ⟨Nat.le_of_ble_eq_true rfl, Nat.le_of_ble_eq_true rfl⟩) hP hD hS hA [0, 1] rfl rfl rfl (fun r8 H locs hw hP hD hS => ?_)
        have hP : va_P g.1 vwCl (List.flatten [kMo g a_mo a_ms a_mwas a_mtried a_msaved a_mpast a_mfar a_mdrift a_mline a_mtape a_mcommands m_changes m_thrown m_errorAt m_failedAt m_answer m_isSaved m_lined m_taped m_here m_commandMany, kAr g a_ms 130 m_s_9, kAr g a_mdrift 12 m_drift_9]) H := hP
        have hD : va_D A (List.flatten [kMo g a_mo a_ms a_mwas a_mtried a_msaved a_mpast a_mfar a_mdrift a_mline a_mtape a_mcommands m_changes m_thrown m_errorAt m_failedAt m_answer m_isSaved m_lined m_taped m_here m_commandMany, kAr g a_ms 130 m_s_9, kAr g a_mdrift 12 m_drift_9]) := hD
        refine lv_iconst (v := 4) hx hb dX7_drifts_31 (by decide) ?_
        refine lv_idiv hx hb dX7_drifts_32 (by decide) ?_
        refine gCi0 (gRunS (As := [.int (m_s_9 (5 : Int32).toNatClampNeg), .int (r8 / 4)]) (rest := [.int x2_9, .ref (a_mdrift 0)]) ⟨hx, hb, hml, hown, hts⟩ (ctX7_lesser l g _ (m_s_9 (5 : Int32).toNatClampNeg) (r8 / 4) hw) (va_cwS 2 hts gX7_drifts_X7_lesser rfl rfl rfl (by decide +kernel) ⟨Nat.le_of_ble_eq_true rfl, Nat.le_of_ble_eq_true rfl⟩) hE (gSub hP []) (gDSub hD [] rfl) rfl rfl hl.1 rfl (lv_room (Nat.le_of_ble_eq_true rfl)) dX7_drifts_33 ⟨Nat.le_of_ble_eq_true rfl, Nat.le_of_ble_eq_true rfl⟩) hP hD hS hA [] rfl rfl rfl (fun r9 H locs hw hP hD hS => ?_)
        have hP : va_P g.1 vwCl (List.flatten [kMo g a_mo a_ms a_mwas a_mtried a_msaved a_mpast a_mfar a_mdrift a_mline a_mtape a_mcommands m_changes m_thrown m_errorAt m_failedAt m_answer m_isSaved m_lined m_taped m_here m_commandMany, kAr g a_ms 130 m_s_9, kAr g a_mdrift 12 m_drift_9]) H := hP
        have hD : va_D A (List.flatten [kMo g a_mo a_ms a_mwas a_mtried a_msaved a_mpast a_mfar a_mdrift a_mline a_mtape a_mcommands m_changes m_thrown m_errorAt m_failedAt m_answer m_isSaved m_lined m_taped m_here m_commandMany, kAr g a_ms 130 m_s_9, kAr g a_mdrift 12 m_drift_9]) := hD
        have h10 := hw.1
        have hw := hw.2
        refine va_iast hx hb hE.1 hP hD hS 2 0 rfl rfl h10 dX7_drifts_36 (fun H locs hP hD hS => ?_)
        have hP : va_P g.1 vwCl (List.flatten [kMo g a_mo a_ms a_mwas a_mtried a_msaved a_mpast a_mfar a_mdrift a_mline a_mtape a_mcommands m_changes m_thrown m_errorAt m_failedAt m_answer m_isSaved m_lined m_taped m_here m_commandMany, kAr g a_ms 130 m_s_9, kAr g a_mdrift 12 (upd m_drift_9 x2_9.toNatClampNeg r9)]) H := hP
        have hD : va_D A (List.flatten [kMo g a_mo a_ms a_mwas a_mtried a_msaved a_mpast a_mfar a_mdrift a_mline a_mtape a_mcommands m_changes m_thrown m_errorAt m_failedAt m_answer m_isSaved m_lined m_taped m_here m_commandMany, kAr g a_ms 130 m_s_9, kAr g a_mdrift 12 (upd m_drift_9 x2_9.toNatClampNeg r9)]) := hD
        refine lv_iinc (v := (x2_9 + 1)) (lv' := [(2, .int (x2_9 + 1)), (0, .ref (a_mo 0)), (1, .int x1_9)]) hx hb dX7_drifts_37 hl (k := 2) rfl rfl (by decide) rfl (fun ls hl => ?_)
        refine lv_goto (tgt := 9) hx hb dX7_drifts_40 (by decide) ?_
        exact ih_9 x1_9 m_s_9 (x2_9 + 1) (upd m_drift_9 x2_9.toNatClampNeg r9) _ _ _ hw hP hD hS (lv_sub hl [1, 2, 0] rfl)
  refine lv_aload_n hx hb dX7_drifts_0 rfl (lv_at hl 0 rfl) ?_
  refine va_get (D := g.1) (ci := 11) (v := .ref (a_ms 0)) (C := RX7) (T := TX7) (N := 20) hx hb hts inX7_drifts_X7 hown hE.1 hP 0 rfl rfl 0 (by decide) (gW hts 1 (.fieldLink RX7 9 "SnowDispatcherModel" "s" "[I") rfl) (fun _ h9 => h9) rfl dX7_drifts_1 ?_
  refine lv_iconst (v := 1) hx hb dX7_drifts_4 (by decide) ?_
  have h1 := hw.1
  have hw := hw.2
  refine va_iald hx hb hE.1 hP 1 0 rfl rfl h1 dX7_drifts_5 ?_
  refine lv_istore_n (lv' := [(1, .int (m_s (1 : Int32).toNatClampNeg)), (0, .ref (a_mo 0))]) hx hb dX7_drifts_6 rfl hl (by decide) rfl (fun ls hl => ?_)
  refine lv_iconst (v := 0) hx hb dX7_drifts_7 (by decide) ?_
  refine lv_istore_n (lv' := [(2, .int 0), (1, .int (m_s (1 : Int32).toNatClampNeg)), (0, .ref (a_mo 0))]) hx hb dX7_drifts_8 rfl hl (by decide) rfl (fun ls hl => ?_)
  obtain ⟨n, hw⟩ := hw
  exact L9 n (m_s (1 : Int32).toNatClampNeg) m_s 0 m_drift _ _ _ hw hP hD hS (lv_sub hl [2, 1, 0] rfl)
abbrev rmX7_hourEnds : Room := { frames := 4, cells := 0, slots := 0, locals := 167 }
set_option maxRecDepth 20000 in
theorem inX7_hourEnds_X7 : ∀ w ∈ wsX70, w ∈ wsX7_hourEnds := by decide +kernel
set_option maxHeartbeats 4000000 in
set_option maxRecDepth 100000 in
theorem ctX7_hourEnds (l : Launch) (g : GG) (a_mo : Nat → Nat) (a_ms : Nat → Nat) (a_mwas : Nat → Nat) (a_mtried : Nat → Nat) (a_msaved : Nat → Nat) (a_mpast : Nat → Nat) (a_mfar : Nat → Nat) (a_mdrift : Nat → Nat) (a_mline : Nat → Nat) (a_mtape : Nat → Nat) (a_mcommands : Nat → Nat) (sz : Nat) (m_changes : Int32) (m_thrown : Int32) (m_errorAt : Int32) (m_failedAt : Int32) (m_answer : Int32) (m_isSaved : Int32) (m_lined : Int32) (m_taped : Int32) (m_here : Int32) (m_commandMany : Int32) (m_s : Nat → Int32) (m_drift : Nat → Int32) {post : (Nat → Int32) → (Nat → Int32) → Prop} (hw : wpX7_hourEnds m_s m_drift post) :
    Met l yX7_hourEnds wsX7_hourEnds rmX7_hourEnds (gPc g sz (List.flatten [kMo g a_mo a_ms a_mwas a_mtried a_msaved a_mpast a_mfar a_mdrift a_mline a_mtape a_mcommands m_changes m_thrown m_errorAt m_failedAt m_answer m_isSaved m_lined m_taped m_here m_commandMany, kAr g a_ms 130 m_s, kAr g a_mdrift 12 m_drift]) [.ref (a_mo 0)]) (gQv2 post (fun u1 u2 => gB g (List.flatten [kMo g a_mo a_ms a_mwas a_mtried a_msaved a_mpast a_mfar a_mdrift a_mline a_mtape a_mcommands m_changes m_thrown m_errorAt m_failedAt m_answer m_isSaved m_lined m_taped m_here m_commandMany, kAr g a_ms 130 m_s, kAr g a_mdrift 12 m_drift]) sz (List.flatten [kMo g a_mo a_ms a_mwas a_mtried a_msaved a_mpast a_mfar a_mdrift a_mline a_mtape a_mcommands m_changes m_thrown m_errorAt m_failedAt m_answer m_isSaved m_lined m_taped m_here m_commandMany, kAr g a_ms 130 u1, kAr g a_mdrift 12 u2])) (va_A (List.flatten [kMo g a_mo a_ms a_mwas a_mtried a_msaved a_mpast a_mfar a_mdrift a_mline a_mtape a_mcommands m_changes m_thrown m_errorAt m_failedAt m_answer m_isSaved m_lined m_taped m_here m_commandMany, kAr g a_ms 130 m_s, kAr g a_mdrift 12 m_drift]) sz)) 0 0 (va_A (List.flatten [kMo g a_mo a_ms a_mwas a_mtried a_msaved a_mpast a_mfar a_mdrift a_mline a_mtape a_mcommands m_changes m_thrown m_errorAt m_failedAt m_answer m_isSaved m_lined m_taped m_here m_commandMany, kAr g a_ms 130 m_s, kAr g a_mdrift 12 m_drift]) sz) := by
  refine gOf (cc := cX7_hourEnds) (maxL := 3) (ret := none) (by decide) rfl (Nat.le_of_ble_eq_true rfl) ?_
  intro p e s m below meth c ls Q A hQ hx hb hr hml hts hown hlocks hE hA0 hsz hP hD hA hS hl
  have hl : lv_has ls 3 [(0, .ref (a_mo 0))] := hl
  have L75 : ∀ (n : Nat) (m_drift_75 : Nat → Int32) (x1_75 : Int32) (m_s_75 : Nat → Int32) (H : Heap) (locs : List Loc) (ls : Array Slot), wpX7_hourEnds_L75 m_drift_75 post n x1_75 m_s_75 → va_P g.1 vwCl (List.flatten [kMo g a_mo a_ms a_mwas a_mtried a_msaved a_mpast a_mfar a_mdrift a_mline a_mtape a_mcommands m_changes m_thrown m_errorAt m_failedAt m_answer m_isSaved m_lined m_taped m_here m_commandMany, kAr g a_ms 130 m_s_75, kAr g a_mdrift 12 m_drift_75]) H → va_D A (List.flatten [kMo g a_mo a_ms a_mwas a_mtried a_msaved a_mpast a_mfar a_mdrift a_mline a_mtape a_mcommands m_changes m_thrown m_errorAt m_failedAt m_answer m_isSaved m_lined m_taped m_here m_commandMany, kAr g a_ms 130 m_s_75, kAr g a_mdrift 12 m_drift_75]) → va_S A s.heap H locs → lv_has ls 3 [(0, .ref (a_mo 0)), (1, .int x1_75)] → W p l e rmX7_hourEnds s m (([.ref (a_mo 0)] : List Value).toArray) below meth c H locs 0 0 Q (F0 m 75 ls []) := by
    intro n_75
    induction n_75 with
    | zero => intro m_drift_75 x1_75 m_s_75 H locs ls hw; exact False.elim hw
    | succ n_75 ih_75 =>
      intro m_drift_75 x1_75 m_s_75 H locs ls hw hP hD hS hl
      refine lv_iload_n hx hb dX7_hourEnds_75 rfl (lv_at hl 1 rfl) ?_
      refine lv_aload_n hx hb dX7_hourEnds_76 rfl (lv_at hl 0 rfl) ?_
      refine va_get (D := g.1) (ci := 11) (v := .ref (a_ms 0)) (C := RX7) (T := TX7) (N := 20) hx hb hts inX7_hourEnds_X7 hown hE.1 hP 0 rfl rfl 0 (by decide) (gW hts 1 (.fieldLink RX7 9 "SnowDispatcherModel" "s" "[I") rfl) (fun _ h9 => h9) rfl dX7_hourEnds_77 ?_
      refine lv_iconst (v := 1) hx hb dX7_hourEnds_80 (by decide) ?_
      have h3 := hw.1
      have hw := hw.2
      refine va_iald hx hb hE.1 hP 1 0 rfl rfl h3 dX7_hourEnds_81 ?_
      refine lv_icmp_ge (tgt := 126) hx hb dX7_hourEnds_82 (by decide) (fun c_82 => ?_) (fun c_82 => ?_)
      · have hw := hw.1 c_82
        subst hQ
        exact W.vret hx hb hr (gRv2 (c1 := m_s_75) (c2 := m_drift_75) (wf := _) hA0 hsz hw hP hD hS) hS.2.2 dX7_hourEnds_126
      · have hw := hw.2 c_82
        refine lv_aload_n hx hb dX7_hourEnds_85 rfl (lv_at hl 0 rfl) ?_
        refine lv_iload_n hx hb dX7_hourEnds_86 rfl (lv_at hl 1 rfl) ?_
        refine gCi0 (gRunV (As := [.int x1_75]) (rest := []) ⟨hx, hb, hml, hown, hts⟩ (ctX7_overdue l g a_mo a_ms a_mwas a_mtried a_msaved a_mpast a_mfar a_mdrift a_mline a_mtape a_mcommands _ m_changes m_thrown m_errorAt m_failedAt m_answer m_isSaved m_lined m_taped m_here m_commandMany m_s_75 x1_75 hw) (cwV 1 hts gX7_hourEnds_X7_overdue rfl rfl rfl (by decide +kernel) ⟨Nat.le_of_ble_eq_true rfl, Nat.le_of_ble_eq_true rfl⟩) hE (gSub hP [0, 1]) (gDSub hD [0, 1] rfl) 0 11 rfl rfl rfl rfl rfl hl.1 rfl (lv_room (Nat.le_of_ble_eq_true rfl)) dX7_hourEnds_87 ⟨Nat.le_of_ble_eq_true rfl, Nat.le_of_ble_eq_true rfl⟩) hP hD hS hA [0, 1] rfl rfl rfl (fun r4 H locs hw hP hD hS => ?_)
        have hP : va_P g.1 vwCl (List.flatten [kMo g a_mo a_ms a_mwas a_mtried a_msaved a_mpast a_mfar a_mdrift a_mline a_mtape a_mcommands m_changes m_thrown m_errorAt m_failedAt m_answer m_isSaved m_lined m_taped m_here m_commandMany, kAr g a_ms 130 m_s_75, kAr g a_mdrift 12 m_drift_75]) H := hP
        have hD : va_D A (List.flatten [kMo g a_mo a_ms a_mwas a_mtried a_msaved a_mpast a_mfar a_mdrift a_mline a_mtape a_mcommands m_changes m_thrown m_errorAt m_failedAt m_answer m_isSaved m_lined m_taped m_here m_commandMany, kAr g a_ms 130 m_s_75, kAr g a_mdrift 12 m_drift_75]) := hD
        refine lv_if_eq (tgt := 120) hx hb dX7_hourEnds_90 (by decide) (fun c_90 => ?_) (fun c_90 => ?_)
        · have hw := hw.1 c_90
          refine lv_iinc (v := (x1_75 + 1)) (lv' := [(1, .int (x1_75 + 1)), (0, .ref (a_mo 0))]) hx hb dX7_hourEnds_120 hl (k := 1) rfl rfl (by decide) rfl (fun ls hl => ?_)
          refine lv_goto (tgt := 75) hx hb dX7_hourEnds_123 (by decide) ?_
          exact ih_75 m_drift_75 (x1_75 + 1) m_s_75 _ _ _ hw hP hD hS (lv_sub hl [1, 0] rfl)
        · have hw := hw.2 c_90
          refine lv_aload_n hx hb dX7_hourEnds_93 rfl (lv_at hl 0 rfl) ?_
          refine lv_iload_n hx hb dX7_hourEnds_94 rfl (lv_at hl 1 rfl) ?_
          refine lv_bipush (v := 6) hx hb dX7_hourEnds_95 (by decide) ?_
          refine lv_aload_n hx hb dX7_hourEnds_97 rfl (lv_at hl 0 rfl) ?_
          refine lv_iload_n hx hb dX7_hourEnds_98 rfl (lv_at hl 1 rfl) ?_
          refine lv_bipush (v := 6) hx hb dX7_hourEnds_99 (by decide) ?_
          refine gCi0 (gRunV (As := [.int x1_75, .int 6]) (rest := [.int 6, .int x1_75, .ref (a_mo 0)]) ⟨hx, hb, hml, hown, hts⟩ (ctX7_of l g a_mo a_ms a_mwas a_mtried a_msaved a_mpast a_mfar a_mdrift a_mline a_mtape a_mcommands _ m_changes m_thrown m_errorAt m_failedAt m_answer m_isSaved m_lined m_taped m_here m_commandMany m_s_75 x1_75 6 hw) (cwV 2 hts gX7_hourEnds_X7_of rfl rfl rfl (by decide +kernel) ⟨Nat.le_of_ble_eq_true rfl, Nat.le_of_ble_eq_true rfl⟩) hE (gSub hP [0, 1]) (gDSub hD [0, 1] rfl) 0 11 rfl rfl rfl rfl rfl hl.1 rfl (lv_room (Nat.le_of_ble_eq_true rfl)) dX7_hourEnds_101 ⟨Nat.le_of_ble_eq_true rfl, Nat.le_of_ble_eq_true rfl⟩) hP hD hS hA [0, 1] rfl rfl rfl (fun r5 H locs hw hP hD hS => ?_)
          have hP : va_P g.1 vwCl (List.flatten [kMo g a_mo a_ms a_mwas a_mtried a_msaved a_mpast a_mfar a_mdrift a_mline a_mtape a_mcommands m_changes m_thrown m_errorAt m_failedAt m_answer m_isSaved m_lined m_taped m_here m_commandMany, kAr g a_ms 130 m_s_75, kAr g a_mdrift 12 m_drift_75]) H := hP
          have hD : va_D A (List.flatten [kMo g a_mo a_ms a_mwas a_mtried a_msaved a_mpast a_mfar a_mdrift a_mline a_mtape a_mcommands m_changes m_thrown m_errorAt m_failedAt m_answer m_isSaved m_lined m_taped m_here m_commandMany, kAr g a_ms 130 m_s_75, kAr g a_mdrift 12 m_drift_75]) := hD
          refine lv_iconst (v := 1) hx hb dX7_hourEnds_104 (by decide) ?_
          refine lv_iadd hx hb dX7_hourEnds_105 ?_
          refine gCv1 (gRunV (As := [.int x1_75, .int 6, .int (r5 + 1)]) (rest := []) ⟨hx, hb, hml, hown, hts⟩ (ctX7_sets l g a_mo a_ms a_mwas a_mtried a_msaved a_mpast a_mfar a_mdrift a_mline a_mtape a_mcommands _ m_changes m_thrown m_errorAt m_failedAt m_answer m_isSaved m_lined m_taped m_here m_commandMany m_s_75 x1_75 6 (r5 + 1) hw) (cwV 3 hts gX7_hourEnds_X7_sets rfl rfl rfl (by decide +kernel) ⟨Nat.le_of_ble_eq_true rfl, Nat.le_of_ble_eq_true rfl⟩) hE (gSub hP [0, 1]) (gDSub hD [0, 1] rfl) 0 11 rfl rfl rfl rfl rfl hl.1 rfl (lv_room (Nat.le_of_ble_eq_true rfl)) dX7_hourEnds_106 ⟨Nat.le_of_ble_eq_true rfl, Nat.le_of_ble_eq_true rfl⟩) hP hD hS hA [0, 1] rfl (fun _ => rfl) rfl (fun m_s_v6 H locs hw hP hD hS => ?_)
          have hP : va_P g.1 vwCl (List.flatten [kMo g a_mo a_ms a_mwas a_mtried a_msaved a_mpast a_mfar a_mdrift a_mline a_mtape a_mcommands m_changes m_thrown m_errorAt m_failedAt m_answer m_isSaved m_lined m_taped m_here m_commandMany, kAr g a_ms 130 m_s_v6, kAr g a_mdrift 12 m_drift_75]) H := hP
          have hD : va_D A (List.flatten [kMo g a_mo a_ms a_mwas a_mtried a_msaved a_mpast a_mfar a_mdrift a_mline a_mtape a_mcommands m_changes m_thrown m_errorAt m_failedAt m_answer m_isSaved m_lined m_taped m_here m_commandMany, kAr g a_ms 130 m_s_v6, kAr g a_mdrift 12 m_drift_75]) := hD
          refine lv_aload_n hx hb dX7_hourEnds_109 rfl (lv_at hl 0 rfl) ?_
          refine va_get (D := g.1) (ci := 11) (v := .ref (a_ms 0)) (C := RX7) (T := TX7) (N := 20) hx hb hts inX7_hourEnds_X7 hown hE.1 hP 0 rfl rfl 0 (by decide) (gW hts 1 (.fieldLink RX7 9 "SnowDispatcherModel" "s" "[I") rfl) (fun _ h9 => h9) rfl dX7_hourEnds_110 ?_
          refine lv_bipush (v := 9) hx hb dX7_hourEnds_113 (by decide) ?_
          refine lv_dup2_11 hx hb dX7_hourEnds_115 rfl rfl ?_
          have h7 := hw.1
          have hw := hw.2
          refine va_iald hx hb hE.1 hP 1 0 rfl rfl h7 dX7_hourEnds_116 ?_
          refine lv_iconst (v := 1) hx hb dX7_hourEnds_117 (by decide) ?_
          refine lv_iadd hx hb dX7_hourEnds_118 ?_
          have h8 := hw.1
          have hw := hw.2
          refine va_iast hx hb hE.1 hP hD hS 1 0 rfl rfl h8 dX7_hourEnds_119 (fun H locs hP hD hS => ?_)
          have hP : va_P g.1 vwCl (List.flatten [kMo g a_mo a_ms a_mwas a_mtried a_msaved a_mpast a_mfar a_mdrift a_mline a_mtape a_mcommands m_changes m_thrown m_errorAt m_failedAt m_answer m_isSaved m_lined m_taped m_here m_commandMany, kAr g a_ms 130 (upd m_s_v6 (9 : Int32).toNatClampNeg ((m_s_v6 (9 : Int32).toNatClampNeg) + 1)), kAr g a_mdrift 12 m_drift_75]) H := hP
          have hD : va_D A (List.flatten [kMo g a_mo a_ms a_mwas a_mtried a_msaved a_mpast a_mfar a_mdrift a_mline a_mtape a_mcommands m_changes m_thrown m_errorAt m_failedAt m_answer m_isSaved m_lined m_taped m_here m_commandMany, kAr g a_ms 130 (upd m_s_v6 (9 : Int32).toNatClampNeg ((m_s_v6 (9 : Int32).toNatClampNeg) + 1)), kAr g a_mdrift 12 m_drift_75]) := hD
          refine lv_iinc (v := (x1_75 + 1)) (lv' := [(1, .int (x1_75 + 1)), (0, .ref (a_mo 0))]) hx hb dX7_hourEnds_120 hl (k := 1) rfl rfl (by decide) rfl (fun ls hl => ?_)
          refine lv_goto (tgt := 75) hx hb dX7_hourEnds_123 (by decide) ?_
          exact ih_75 m_drift_75 (x1_75 + 1) (upd m_s_v6 (9 : Int32).toNatClampNeg ((m_s_v6 (9 : Int32).toNatClampNeg) + 1)) _ _ _ hw hP hD hS (lv_sub hl [1, 0] rfl)
  have L2 : ∀ (n : Nat) (m_drift_2 : Nat → Int32) (x1_2 : Int32) (m_s_2 : Nat → Int32) (H : Heap) (locs : List Loc) (ls : Array Slot), wpX7_hourEnds_L2 m_drift_2 post n x1_2 m_s_2 → va_P g.1 vwCl (List.flatten [kMo g a_mo a_ms a_mwas a_mtried a_msaved a_mpast a_mfar a_mdrift a_mline a_mtape a_mcommands m_changes m_thrown m_errorAt m_failedAt m_answer m_isSaved m_lined m_taped m_here m_commandMany, kAr g a_ms 130 m_s_2, kAr g a_mdrift 12 m_drift_2]) H → va_D A (List.flatten [kMo g a_mo a_ms a_mwas a_mtried a_msaved a_mpast a_mfar a_mdrift a_mline a_mtape a_mcommands m_changes m_thrown m_errorAt m_failedAt m_answer m_isSaved m_lined m_taped m_here m_commandMany, kAr g a_ms 130 m_s_2, kAr g a_mdrift 12 m_drift_2]) → va_S A s.heap H locs → lv_has ls 3 [(0, .ref (a_mo 0)), (1, .int x1_2)] → W p l e rmX7_hourEnds s m (([.ref (a_mo 0)] : List Value).toArray) below meth c H locs 0 0 Q (F0 m 2 ls []) := by
    intro n_2
    induction n_2 with
    | zero => intro m_drift_2 x1_2 m_s_2 H locs ls hw; exact False.elim hw
    | succ n_2 ih_2 =>
      intro m_drift_2 x1_2 m_s_2 H locs ls hw hP hD hS hl
      have J47 : ∀ (z0_47 : Int32) (x1_47 : Int32) (m_s_47 : Nat → Int32) (H : Heap) (locs : List Loc) (ls : Array Slot), wpX7_hourEnds_L47 m_drift_2 (wpX7_hourEnds_L2 m_drift_2 post n_2) post z0_47 x1_47 m_s_47 → va_P g.1 vwCl (List.flatten [kMo g a_mo a_ms a_mwas a_mtried a_msaved a_mpast a_mfar a_mdrift a_mline a_mtape a_mcommands m_changes m_thrown m_errorAt m_failedAt m_answer m_isSaved m_lined m_taped m_here m_commandMany, kAr g a_ms 130 m_s_47, kAr g a_mdrift 12 m_drift_2]) H → va_D A (List.flatten [kMo g a_mo a_ms a_mwas a_mtried a_msaved a_mpast a_mfar a_mdrift a_mline a_mtape a_mcommands m_changes m_thrown m_errorAt m_failedAt m_answer m_isSaved m_lined m_taped m_here m_commandMany, kAr g a_ms 130 m_s_47, kAr g a_mdrift 12 m_drift_2]) → va_S A s.heap H locs → lv_has ls 3 [(0, .ref (a_mo 0)), (1, .int x1_47)] → W p l e rmX7_hourEnds s m (([.ref (a_mo 0)] : List Value).toArray) below meth c H locs 0 0 Q (F0 m 47 ls [.int z0_47]) := by
        intro z0_47 x1_47 m_s_47 H locs ls hw hP hD hS hl
        refine lv_istore_n (lv' := [(2, .int z0_47), (0, .ref (a_mo 0)), (1, .int x1_47)]) hx hb dX7_hourEnds_47 rfl hl (by decide) rfl (fun ls hl => ?_)
        refine lv_aload_n hx hb dX7_hourEnds_48 rfl (lv_at hl 1 rfl) ?_
        refine lv_iload_n hx hb dX7_hourEnds_49 rfl (lv_at hl 2 rfl) ?_
        refine lv_iconst (v := 4) hx hb dX7_hourEnds_50 (by decide) ?_
        refine lv_iload_n hx hb dX7_hourEnds_51 rfl (lv_at hl 0 rfl) ?_
        refine lv_if_ge (tgt := 59) hx hb dX7_hourEnds_52 (by decide) (fun c_52 => ?_) (fun c_52 => ?_)
        · have hw := hw.1 c_52
          refine lv_iload_n hx hb dX7_hourEnds_59 rfl (lv_at hl 0 rfl) ?_
          refine gCv1 (gRunV (As := [.int x1_47, .int 4, .int z0_47]) (rest := []) ⟨hx, hb, hml, hown, hts⟩ (ctX7_sets l g a_mo a_ms a_mwas a_mtried a_msaved a_mpast a_mfar a_mdrift a_mline a_mtape a_mcommands _ m_changes m_thrown m_errorAt m_failedAt m_answer m_isSaved m_lined m_taped m_here m_commandMany m_s_47 x1_47 4 z0_47 hw) (cwV 3 hts gX7_hourEnds_X7_sets rfl rfl rfl (by decide +kernel) ⟨Nat.le_of_ble_eq_true rfl, Nat.le_of_ble_eq_true rfl⟩) hE (gSub hP [0, 1]) (gDSub hD [0, 1] rfl) 0 11 rfl rfl rfl rfl rfl hl.1 rfl (lv_room (Nat.le_of_ble_eq_true rfl)) dX7_hourEnds_60 ⟨Nat.le_of_ble_eq_true rfl, Nat.le_of_ble_eq_true rfl⟩) hP hD hS hA [0, 1] rfl (fun _ => rfl) rfl (fun m_s_v13 H locs hw hP hD hS => ?_)
          have hP : va_P g.1 vwCl (List.flatten [kMo g a_mo a_ms a_mwas a_mtried a_msaved a_mpast a_mfar a_mdrift a_mline a_mtape a_mcommands m_changes m_thrown m_errorAt m_failedAt m_answer m_isSaved m_lined m_taped m_here m_commandMany, kAr g a_ms 130 m_s_v13, kAr g a_mdrift 12 m_drift_2]) H := hP
          have hD : va_D A (List.flatten [kMo g a_mo a_ms a_mwas a_mtried a_msaved a_mpast a_mfar a_mdrift a_mline a_mtape a_mcommands m_changes m_thrown m_errorAt m_failedAt m_answer m_isSaved m_lined m_taped m_here m_commandMany, kAr g a_ms 130 m_s_v13, kAr g a_mdrift 12 m_drift_2]) := hD
          refine lv_iinc (v := (x1_47 + 1)) (lv' := [(1, .int (x1_47 + 1)), (2, .int z0_47), (0, .ref (a_mo 0))]) hx hb dX7_hourEnds_63 hl (k := 2) rfl rfl (by decide) rfl (fun ls hl => ?_)
          refine lv_goto (tgt := 2) hx hb dX7_hourEnds_66 (by decide) ?_
          exact ih_2 m_drift_2 (x1_47 + 1) m_s_v13 _ _ _ hw hP hD hS (lv_sub hl [2, 0] rfl)
        · have hw := hw.2 c_52
          refine lv_iconst (v := 0) hx hb dX7_hourEnds_55 (by decide) ?_
          refine lv_goto (tgt := 60) hx hb dX7_hourEnds_56 (by decide) ?_
          refine gCv1 (gRunV (As := [.int x1_47, .int 4, .int 0]) (rest := []) ⟨hx, hb, hml, hown, hts⟩ (ctX7_sets l g a_mo a_ms a_mwas a_mtried a_msaved a_mpast a_mfar a_mdrift a_mline a_mtape a_mcommands _ m_changes m_thrown m_errorAt m_failedAt m_answer m_isSaved m_lined m_taped m_here m_commandMany m_s_47 x1_47 4 0 hw) (cwV 3 hts gX7_hourEnds_X7_sets rfl rfl rfl (by decide +kernel) ⟨Nat.le_of_ble_eq_true rfl, Nat.le_of_ble_eq_true rfl⟩) hE (gSub hP [0, 1]) (gDSub hD [0, 1] rfl) 0 11 rfl rfl rfl rfl rfl hl.1 rfl (lv_room (Nat.le_of_ble_eq_true rfl)) dX7_hourEnds_60 ⟨Nat.le_of_ble_eq_true rfl, Nat.le_of_ble_eq_true rfl⟩) hP hD hS hA [0, 1] rfl (fun _ => rfl) rfl (fun m_s_v14 H locs hw hP hD hS => ?_)
          have hP : va_P g.1 vwCl (List.flatten [kMo g a_mo a_ms a_mwas a_mtried a_msaved a_mpast a_mfar a_mdrift a_mline a_mtape a_mcommands m_changes m_thrown m_errorAt m_failedAt m_answer m_isSaved m_lined m_taped m_here m_commandMany, kAr g a_ms 130 m_s_v14, kAr g a_mdrift 12 m_drift_2]) H := hP
          have hD : va_D A (List.flatten [kMo g a_mo a_ms a_mwas a_mtried a_msaved a_mpast a_mfar a_mdrift a_mline a_mtape a_mcommands m_changes m_thrown m_errorAt m_failedAt m_answer m_isSaved m_lined m_taped m_here m_commandMany, kAr g a_ms 130 m_s_v14, kAr g a_mdrift 12 m_drift_2]) := hD
          refine lv_iinc (v := (x1_47 + 1)) (lv' := [(1, .int (x1_47 + 1)), (2, .int z0_47), (0, .ref (a_mo 0))]) hx hb dX7_hourEnds_63 hl (k := 2) rfl rfl (by decide) rfl (fun ls hl => ?_)
          refine lv_goto (tgt := 2) hx hb dX7_hourEnds_66 (by decide) ?_
          exact ih_2 m_drift_2 (x1_47 + 1) m_s_v14 _ _ _ hw hP hD hS (lv_sub hl [2, 0] rfl)
      refine lv_iload_n hx hb dX7_hourEnds_2 rfl (lv_at hl 1 rfl) ?_
      refine lv_aload_n hx hb dX7_hourEnds_3 rfl (lv_at hl 0 rfl) ?_
      refine va_get (D := g.1) (ci := 11) (v := .ref (a_ms 0)) (C := RX7) (T := TX7) (N := 20) hx hb hts inX7_hourEnds_X7 hown hE.1 hP 0 rfl rfl 0 (by decide) (gW hts 1 (.fieldLink RX7 9 "SnowDispatcherModel" "s" "[I") rfl) (fun _ h9 => h9) rfl dX7_hourEnds_4 ?_
      refine lv_iconst (v := 1) hx hb dX7_hourEnds_7 (by decide) ?_
      have h1 := hw.1
      have hw := hw.2
      refine va_iald hx hb hE.1 hP 1 0 rfl rfl h1 dX7_hourEnds_8 ?_
      refine lv_icmp_ge (tgt := 69) hx hb dX7_hourEnds_9 (by decide) (fun c_9 => ?_) (fun c_9 => ?_)
      · have hw := hw.1 c_9
        refine lv_aload_n hx hb dX7_hourEnds_69 rfl (lv_at hl 0 rfl) ?_
        refine gCv2 (gRunV (As := []) (rest := []) ⟨hx, hb, hml, hown, hts⟩ (ctX7_drifts l g a_mo a_ms a_mwas a_mtried a_msaved a_mpast a_mfar a_mdrift a_mline a_mtape a_mcommands _ m_changes m_thrown m_errorAt m_failedAt m_answer m_isSaved m_lined m_taped m_here m_commandMany m_s_2 m_drift_2 hw) (cwV 0 hts gX7_hourEnds_X7_drifts rfl rfl rfl (by decide +kernel) ⟨Nat.le_of_ble_eq_true rfl, Nat.le_of_ble_eq_true rfl⟩) hE (gSub hP [0, 1, 2]) (gDSub hD [0, 1, 2] rfl) 0 11 rfl rfl rfl rfl rfl hl.1 rfl (lv_room (Nat.le_of_ble_eq_true rfl)) dX7_hourEnds_70 ⟨Nat.le_of_ble_eq_true rfl, Nat.le_of_ble_eq_true rfl⟩) hP hD hS hA [0, 1, 2] rfl (fun _ _ => rfl) rfl (fun m_s_v2 m_drift_v2 H locs hw hP hD hS => ?_)
        have hP : va_P g.1 vwCl (List.flatten [kMo g a_mo a_ms a_mwas a_mtried a_msaved a_mpast a_mfar a_mdrift a_mline a_mtape a_mcommands m_changes m_thrown m_errorAt m_failedAt m_answer m_isSaved m_lined m_taped m_here m_commandMany, kAr g a_ms 130 m_s_v2, kAr g a_mdrift 12 m_drift_v2]) H := hP
        have hD : va_D A (List.flatten [kMo g a_mo a_ms a_mwas a_mtried a_msaved a_mpast a_mfar a_mdrift a_mline a_mtape a_mcommands m_changes m_thrown m_errorAt m_failedAt m_answer m_isSaved m_lined m_taped m_here m_commandMany, kAr g a_ms 130 m_s_v2, kAr g a_mdrift 12 m_drift_v2]) := hD
        refine lv_iconst (v := 0) hx hb dX7_hourEnds_73 (by decide) ?_
        refine lv_istore_n (lv' := [(1, .int 0), (0, .ref (a_mo 0))]) hx hb dX7_hourEnds_74 rfl hl (by decide) rfl (fun ls hl => ?_)
        obtain ⟨n, hw⟩ := hw
        exact L75 n m_drift_v2 0 m_s_v2 _ _ _ hw hP hD hS (lv_sub hl [1, 0] rfl)
      · have hw := hw.2 c_9
        refine lv_sipush (v := 200) hx hb dX7_hourEnds_12 (by decide) ?_
        refine lv_aload_n hx hb dX7_hourEnds_15 rfl (lv_at hl 0 rfl) ?_
        refine lv_iload_n hx hb dX7_hourEnds_16 rfl (lv_at hl 1 rfl) ?_
        refine lv_iconst (v := 4) hx hb dX7_hourEnds_17 (by decide) ?_
        refine gCi0 (gRunV (As := [.int x1_2, .int 4]) (rest := [.int 200]) ⟨hx, hb, hml, hown, hts⟩ (ctX7_of l g a_mo a_ms a_mwas a_mtried a_msaved a_mpast a_mfar a_mdrift a_mline a_mtape a_mcommands _ m_changes m_thrown m_errorAt m_failedAt m_answer m_isSaved m_lined m_taped m_here m_commandMany m_s_2 x1_2 4 hw) (cwV 2 hts gX7_hourEnds_X7_of rfl rfl rfl (by decide +kernel) ⟨Nat.le_of_ble_eq_true rfl, Nat.le_of_ble_eq_true rfl⟩) hE (gSub hP [0, 1]) (gDSub hD [0, 1] rfl) 0 11 rfl rfl rfl rfl rfl hl.1 rfl (lv_room (Nat.le_of_ble_eq_true rfl)) dX7_hourEnds_18 ⟨Nat.le_of_ble_eq_true rfl, Nat.le_of_ble_eq_true rfl⟩) hP hD hS hA [0, 1] rfl rfl rfl (fun r9 H locs hw hP hD hS => ?_)
        have hP : va_P g.1 vwCl (List.flatten [kMo g a_mo a_ms a_mwas a_mtried a_msaved a_mpast a_mfar a_mdrift a_mline a_mtape a_mcommands m_changes m_thrown m_errorAt m_failedAt m_answer m_isSaved m_lined m_taped m_here m_commandMany, kAr g a_ms 130 m_s_2, kAr g a_mdrift 12 m_drift_2]) H := hP
        have hD : va_D A (List.flatten [kMo g a_mo a_ms a_mwas a_mtried a_msaved a_mpast a_mfar a_mdrift a_mline a_mtape a_mcommands m_changes m_thrown m_errorAt m_failedAt m_answer m_isSaved m_lined m_taped m_here m_commandMany, kAr g a_ms 130 m_s_2, kAr g a_mdrift 12 m_drift_2]) := hD
        refine lv_aload_n hx hb dX7_hourEnds_21 rfl (lv_at hl 0 rfl) ?_
        refine va_get (D := g.1) (ci := 11) (v := .ref (a_ms 0)) (C := RX7) (T := TX7) (N := 20) hx hb hts inX7_hourEnds_X7 hown hE.1 hP 0 rfl rfl 0 (by decide) (gW hts 1 (.fieldLink RX7 9 "SnowDispatcherModel" "s" "[I") rfl) (fun _ h9 => h9) rfl dX7_hourEnds_22 ?_
        refine lv_iconst (v := 4) hx hb dX7_hourEnds_25 (by decide) ?_
        have h10 := hw.1
        have hw := hw.2
        refine va_iald hx hb hE.1 hP 1 0 rfl rfl h10 dX7_hourEnds_26 ?_
        refine lv_iadd hx hb dX7_hourEnds_27 ?_
        refine gCi0 (gRunS (As := [.int 200, .int (r9 + (m_s_2 (4 : Int32).toNatClampNeg))]) (rest := []) ⟨hx, hb, hml, hown, hts⟩ (ctX7_lesser l g _ 200 (r9 + (m_s_2 (4 : Int32).toNatClampNeg)) hw) (va_cwS 2 hts gX7_hourEnds_X7_lesser rfl rfl rfl (by decide +kernel) ⟨Nat.le_of_ble_eq_true rfl, Nat.le_of_ble_eq_true rfl⟩) hE (gSub hP []) (gDSub hD [] rfl) rfl rfl hl.1 rfl (lv_room (Nat.le_of_ble_eq_true rfl)) dX7_hourEnds_28 ⟨Nat.le_of_ble_eq_true rfl, Nat.le_of_ble_eq_true rfl⟩) hP hD hS hA [] rfl rfl rfl (fun r11 H locs hw hP hD hS => ?_)
        have hP : va_P g.1 vwCl (List.flatten [kMo g a_mo a_ms a_mwas a_mtried a_msaved a_mpast a_mfar a_mdrift a_mline a_mtape a_mcommands m_changes m_thrown m_errorAt m_failedAt m_answer m_isSaved m_lined m_taped m_here m_commandMany, kAr g a_ms 130 m_s_2, kAr g a_mdrift 12 m_drift_2]) H := hP
        have hD : va_D A (List.flatten [kMo g a_mo a_ms a_mwas a_mtried a_msaved a_mpast a_mfar a_mdrift a_mline a_mtape a_mcommands m_changes m_thrown m_errorAt m_failedAt m_answer m_isSaved m_lined m_taped m_here m_commandMany, kAr g a_ms 130 m_s_2, kAr g a_mdrift 12 m_drift_2]) := hD
        refine lv_istore_n (lv' := [(2, .int r11), (0, .ref (a_mo 0)), (1, .int x1_2)]) hx hb dX7_hourEnds_31 rfl hl (by decide) rfl (fun ls hl => ?_)
        refine lv_aload_n hx hb dX7_hourEnds_32 rfl (lv_at hl 1 rfl) ?_
        refine lv_iload_n hx hb dX7_hourEnds_33 rfl (lv_at hl 2 rfl) ?_
        refine gCi0 (gRunV (As := [.int x1_2]) (rest := []) ⟨hx, hb, hml, hown, hts⟩ (ctX7_salted l g a_mo a_ms a_mwas a_mtried a_msaved a_mpast a_mfar a_mdrift a_mline a_mtape a_mcommands _ m_changes m_thrown m_errorAt m_failedAt m_answer m_isSaved m_lined m_taped m_here m_commandMany m_s_2 x1_2 hw) (cwV 1 hts gX7_hourEnds_X7_salted rfl rfl rfl (by decide +kernel) ⟨Nat.le_of_ble_eq_true rfl, Nat.le_of_ble_eq_true rfl⟩) hE (gSub hP [0, 1]) (gDSub hD [0, 1] rfl) 0 11 rfl rfl rfl rfl rfl hl.1 rfl (lv_room (Nat.le_of_ble_eq_true rfl)) dX7_hourEnds_34 ⟨Nat.le_of_ble_eq_true rfl, Nat.le_of_ble_eq_true rfl⟩) hP hD hS hA [0, 1] rfl rfl rfl (fun r12 H locs hw hP hD hS => ?_)
        have hP : va_P g.1 vwCl (List.flatten [kMo g a_mo a_ms a_mwas a_mtried a_msaved a_mpast a_mfar a_mdrift a_mline a_mtape a_mcommands m_changes m_thrown m_errorAt m_failedAt m_answer m_isSaved m_lined m_taped m_here m_commandMany, kAr g a_ms 130 m_s_2, kAr g a_mdrift 12 m_drift_2]) H := hP
        have hD : va_D A (List.flatten [kMo g a_mo a_ms a_mwas a_mtried a_msaved a_mpast a_mfar a_mdrift a_mline a_mtape a_mcommands m_changes m_thrown m_errorAt m_failedAt m_answer m_isSaved m_lined m_taped m_here m_commandMany, kAr g a_ms 130 m_s_2, kAr g a_mdrift 12 m_drift_2]) := hD
        refine lv_if_eq (tgt := 46) hx hb dX7_hourEnds_37 (by decide) (fun c_37 => ?_) (fun c_37 => ?_)
        · have hw := hw.1 c_37
          refine lv_iload_n hx hb dX7_hourEnds_46 rfl (lv_at hl 0 rfl) ?_
          exact J47 r11 x1_2 m_s_2 _ _ _ hw hP hD hS (lv_sub hl [1, 2] rfl)
        · have hw := hw.2 c_37
          refine lv_iload_n hx hb dX7_hourEnds_40 rfl (lv_at hl 0 rfl) ?_
          refine lv_iconst (v := 3) hx hb dX7_hourEnds_41 (by decide) ?_
          refine lv_isub hx hb dX7_hourEnds_42 ?_
          refine lv_goto (tgt := 47) hx hb dX7_hourEnds_43 (by decide) ?_
          exact J47 (r11 - 3) x1_2 m_s_2 _ _ _ hw hP hD hS (lv_sub hl [1, 2] rfl)
  refine lv_iconst (v := 0) hx hb dX7_hourEnds_0 (by decide) ?_
  refine lv_istore_n (lv' := [(1, .int 0), (0, .ref (a_mo 0))]) hx hb dX7_hourEnds_1 rfl hl (by decide) rfl (fun ls hl => ?_)
  obtain ⟨n, hw⟩ := hw
  exact L2 n m_drift 0 m_s _ _ _ hw hP hD hS (lv_sub hl [1, 0] rfl)
abbrev rmX7_minutePasses : Room := { frames := 6, cells := 0, slots := 0, locals := 222 }
set_option maxRecDepth 20000 in
theorem inX7_minutePasses_X7 : ∀ w ∈ wsX70, w ∈ wsX7_minutePasses := by decide +kernel
set_option maxHeartbeats 4000000 in
set_option maxRecDepth 100000 in
theorem ctX7_minutePasses (l : Launch) (g : GG) (a_mo : Nat → Nat) (a_ms : Nat → Nat) (a_mwas : Nat → Nat) (a_mtried : Nat → Nat) (a_msaved : Nat → Nat) (a_mpast : Nat → Nat) (a_mfar : Nat → Nat) (a_mdrift : Nat → Nat) (a_mline : Nat → Nat) (a_mtape : Nat → Nat) (a_mcommands : Nat → Nat) (sz : Nat) (m_changes : Int32) (m_thrown : Int32) (m_errorAt : Int32) (m_failedAt : Int32) (m_answer : Int32) (m_isSaved : Int32) (m_lined : Int32) (m_taped : Int32) (m_here : Int32) (m_commandMany : Int32) (m_s : Nat → Int32) (m_far : Nat → Int32) (m_drift : Nat → Int32) (x1 : Int32) {post : Int32 → (Nat → Int32) → (Nat → Int32) → (Nat → Int32) → Prop} (hw : wpX7_minutePasses x1 m_s m_far m_drift post) :
    Met l yX7_minutePasses wsX7_minutePasses rmX7_minutePasses (gPc g sz (List.flatten [kMo g a_mo a_ms a_mwas a_mtried a_msaved a_mpast a_mfar a_mdrift a_mline a_mtape a_mcommands m_changes m_thrown m_errorAt m_failedAt m_answer m_isSaved m_lined m_taped m_here m_commandMany, kAr g a_ms 130 m_s, kAr g a_mfar 8 m_far, kAr g a_mdrift 12 m_drift]) [.ref (a_mo 0), .int x1]) (gQi3 post (fun u1 u2 u3 => gB g (List.flatten [kMo g a_mo a_ms a_mwas a_mtried a_msaved a_mpast a_mfar a_mdrift a_mline a_mtape a_mcommands m_changes m_thrown m_errorAt m_failedAt m_answer m_isSaved m_lined m_taped m_here m_commandMany, kAr g a_ms 130 m_s, kAr g a_mfar 8 m_far, kAr g a_mdrift 12 m_drift]) sz (List.flatten [kMo g a_mo a_ms a_mwas a_mtried a_msaved a_mpast a_mfar a_mdrift a_mline a_mtape a_mcommands m_changes m_thrown m_errorAt m_failedAt m_answer m_isSaved m_lined m_taped m_here m_commandMany, kAr g a_ms 130 u1, kAr g a_mfar 8 u2, kAr g a_mdrift 12 u3])) (va_A (List.flatten [kMo g a_mo a_ms a_mwas a_mtried a_msaved a_mpast a_mfar a_mdrift a_mline a_mtape a_mcommands m_changes m_thrown m_errorAt m_failedAt m_answer m_isSaved m_lined m_taped m_here m_commandMany, kAr g a_ms 130 m_s, kAr g a_mfar 8 m_far, kAr g a_mdrift 12 m_drift]) sz)) 0 0 (va_A (List.flatten [kMo g a_mo a_ms a_mwas a_mtried a_msaved a_mpast a_mfar a_mdrift a_mline a_mtape a_mcommands m_changes m_thrown m_errorAt m_failedAt m_answer m_isSaved m_lined m_taped m_here m_commandMany, kAr g a_ms 130 m_s, kAr g a_mfar 8 m_far, kAr g a_mdrift 12 m_drift]) sz) := by
  refine gOf (cc := cX7_minutePasses) (maxL := 4) (ret := (some .boolean)) (by decide) rfl (Nat.le_of_ble_eq_true rfl) ?_
  intro p e s m below meth c ls Q A hQ hx hb hr hml hts hown hlocks hE hA0 hsz hP hD hA hS hl
  have hl : lv_has ls 4 [(0, .ref (a_mo 0)), (1, .int x1)] := hl
  have L14 : ∀ (n : Nat) (m_drift_14 : Nat → Int32) (x2_14 : Int32) (x3_14 : Int32) (m_s_14 : Nat → Int32) (m_far_14 : Nat → Int32) (H : Heap) (locs : List Loc) (ls : Array Slot), wpX7_minutePasses_L14 x1 m_drift_14 post n x2_14 x3_14 m_s_14 m_far_14 → va_P g.1 vwCl (List.flatten [kMo g a_mo a_ms a_mwas a_mtried a_msaved a_mpast a_mfar a_mdrift a_mline a_mtape a_mcommands m_changes m_thrown m_errorAt m_failedAt m_answer m_isSaved m_lined m_taped m_here m_commandMany, kAr g a_ms 130 m_s_14, kAr g a_mfar 8 m_far_14, kAr g a_mdrift 12 m_drift_14]) H → va_D A (List.flatten [kMo g a_mo a_ms a_mwas a_mtried a_msaved a_mpast a_mfar a_mdrift a_mline a_mtape a_mcommands m_changes m_thrown m_errorAt m_failedAt m_answer m_isSaved m_lined m_taped m_here m_commandMany, kAr g a_ms 130 m_s_14, kAr g a_mfar 8 m_far_14, kAr g a_mdrift 12 m_drift_14]) → va_S A s.heap H locs → lv_has ls 4 [(0, .ref (a_mo 0)), (1, .int x1), (2, .int x2_14), (3, .int x3_14)] → W p l e rmX7_minutePasses s m (([.ref (a_mo 0), .int x1] : List Value).toArray) below meth c H locs 0 0 Q (F0 m 14 ls []) := by
    intro n_14
    induction n_14 with
    | zero => intro m_drift_14 x2_14 x3_14 m_s_14 m_far_14 H locs ls hw; exact False.elim hw
    | succ n_14 ih_14 =>
      intro m_drift_14 x2_14 x3_14 m_s_14 m_far_14 H locs ls hw hP hD hS hl
      refine lv_iload_n hx hb dX7_minutePasses_14 rfl (lv_at hl 3 rfl) ?_
      refine lv_aload_n hx hb dX7_minutePasses_15 rfl (lv_at hl 0 rfl) ?_
      refine va_get (D := g.1) (ci := 11) (v := .ref (a_ms 0)) (C := RX7) (T := TX7) (N := 20) hx hb hts inX7_minutePasses_X7 hown hE.1 hP 0 rfl rfl 0 (by decide) (gW hts 1 (.fieldLink RX7 9 "SnowDispatcherModel" "s" "[I") rfl) (fun _ h9 => h9) rfl dX7_minutePasses_16 ?_
      refine lv_iconst (v := 2) hx hb dX7_minutePasses_19 (by decide) ?_
      have h3 := hw.1
      have hw := hw.2
      refine va_iald hx hb hE.1 hP 1 0 rfl rfl h3 dX7_minutePasses_20 ?_
      refine lv_icmp_ge (tgt := 47) hx hb dX7_minutePasses_21 (by decide) (fun c_21 => ?_) (fun c_21 => ?_)
      · have hw := hw.1 c_21
        refine lv_aload_n hx hb dX7_minutePasses_47 rfl (lv_at hl 0 rfl) ?_
        refine va_get (D := g.1) (ci := 11) (v := .ref (a_ms 0)) (C := RX7) (T := TX7) (N := 20) hx hb hts inX7_minutePasses_X7 hown hE.1 hP 0 rfl rfl 0 (by decide) (gW hts 1 (.fieldLink RX7 9 "SnowDispatcherModel" "s" "[I") rfl) (fun _ h9 => h9) rfl dX7_minutePasses_48 ?_
        refine lv_iconst (v := 0) hx hb dX7_minutePasses_51 (by decide) ?_
        have h4 := hw.1
        have hw := hw.2
        refine va_iald hx hb hE.1 hP 1 0 rfl rfl h4 dX7_minutePasses_52 ?_
        refine lv_bipush (v := 60) hx hb dX7_minutePasses_53 (by decide) ?_
        refine lv_irem hx hb dX7_minutePasses_55 (by decide) ?_
        refine lv_if_ne (tgt := 63) hx hb dX7_minutePasses_56 (by decide) (fun c_56 => ?_) (fun c_56 => ?_)
        · have hw := hw.1 c_56
          refine lv_iload_n hx hb dX7_minutePasses_63 rfl (lv_at hl 2 rfl) ?_
          have h5 := hw.1
          have hw := hw.2
          subst hQ
          exact W.zret (ty := .boolean) hx hb hr h5 (gRi3 (c1 := m_s_14) (c2 := m_far_14) (c3 := m_drift_14) (wf := _) hA0 hsz hw hP hD hS) hS.2.2 dX7_minutePasses_64
        · have hw := hw.2 c_56
          refine lv_aload_n hx hb dX7_minutePasses_59 rfl (lv_at hl 0 rfl) ?_
          refine gCv2 (gRunV (As := []) (rest := []) ⟨hx, hb, hml, hown, hts⟩ (ctX7_hourEnds l g a_mo a_ms a_mwas a_mtried a_msaved a_mpast a_mfar a_mdrift a_mline a_mtape a_mcommands _ m_changes m_thrown m_errorAt m_failedAt m_answer m_isSaved m_lined m_taped m_here m_commandMany m_s_14 m_drift_14 hw) (cwV 0 hts gX7_minutePasses_X7_hourEnds rfl rfl rfl (by decide +kernel) ⟨Nat.le_of_ble_eq_true rfl, Nat.le_of_ble_eq_true rfl⟩) hE (gSub hP [0, 1, 3]) (gDSub hD [0, 1, 3] rfl) 0 11 rfl rfl rfl rfl rfl hl.1 rfl (lv_room (Nat.le_of_ble_eq_true rfl)) dX7_minutePasses_60 ⟨Nat.le_of_ble_eq_true rfl, Nat.le_of_ble_eq_true rfl⟩) hP hD hS hA [0, 1, 3] rfl (fun _ _ => rfl) rfl (fun m_s_v6 m_drift_v6 H locs hw hP hD hS => ?_)
          have hP : va_P g.1 vwCl (List.flatten [kMo g a_mo a_ms a_mwas a_mtried a_msaved a_mpast a_mfar a_mdrift a_mline a_mtape a_mcommands m_changes m_thrown m_errorAt m_failedAt m_answer m_isSaved m_lined m_taped m_here m_commandMany, kAr g a_ms 130 m_s_v6, kAr g a_mfar 8 m_far_14, kAr g a_mdrift 12 m_drift_v6]) H := hP
          have hD : va_D A (List.flatten [kMo g a_mo a_ms a_mwas a_mtried a_msaved a_mpast a_mfar a_mdrift a_mline a_mtape a_mcommands m_changes m_thrown m_errorAt m_failedAt m_answer m_isSaved m_lined m_taped m_here m_commandMany, kAr g a_ms 130 m_s_v6, kAr g a_mfar 8 m_far_14, kAr g a_mdrift 12 m_drift_v6]) := hD
          refine lv_iload_n hx hb dX7_minutePasses_63 rfl (lv_at hl 2 rfl) ?_
          have h7 := hw.1
          have hw := hw.2
          subst hQ
          exact W.zret (ty := .boolean) hx hb hr h7 (gRi3 (c1 := m_s_v6) (c2 := m_far_14) (c3 := m_drift_v6) (wf := _) hA0 hsz hw hP hD hS) hS.2.2 dX7_minutePasses_64
      · have hw := hw.2 c_21
        refine lv_iload_n hx hb dX7_minutePasses_24 rfl (lv_at hl 2 rfl) ?_
        refine lv_aload_n hx hb dX7_minutePasses_25 rfl (lv_at hl 0 rfl) ?_
        refine lv_iload_n hx hb dX7_minutePasses_26 rfl (lv_at hl 3 rfl) ?_
        refine gCi2 (gRunV (As := [.int x3_14]) (rest := [.int x2_14]) ⟨hx, hb, hml, hown, hts⟩ (ctX7_ploughMinute l g a_mo a_ms a_mwas a_mtried a_msaved a_mpast a_mfar a_mdrift a_mline a_mtape a_mcommands _ m_changes m_thrown m_errorAt m_failedAt m_answer m_isSaved m_lined m_taped m_here m_commandMany m_s_14 m_far_14 x3_14 hw) (cwV 1 hts gX7_minutePasses_X7_ploughMinute rfl rfl rfl (by decide +kernel) ⟨Nat.le_of_ble_eq_true rfl, Nat.le_of_ble_eq_true rfl⟩) hE (gSub hP [0, 1, 2]) (gDSub hD [0, 1, 2] rfl) 0 11 rfl rfl rfl rfl rfl hl.1 rfl (lv_room (Nat.le_of_ble_eq_true rfl)) dX7_minutePasses_27 ⟨Nat.le_of_ble_eq_true rfl, Nat.le_of_ble_eq_true rfl⟩) hP hD hS hA [0, 1, 2] rfl (fun _ _ => rfl) rfl (fun r8 m_s_v8 m_far_v8 H locs hw hP hD hS => ?_)
        have hP : va_P g.1 vwCl (List.flatten [kMo g a_mo a_ms a_mwas a_mtried a_msaved a_mpast a_mfar a_mdrift a_mline a_mtape a_mcommands m_changes m_thrown m_errorAt m_failedAt m_answer m_isSaved m_lined m_taped m_here m_commandMany, kAr g a_ms 130 m_s_v8, kAr g a_mfar 8 m_far_v8, kAr g a_mdrift 12 m_drift_14]) H := hP
        have hD : va_D A (List.flatten [kMo g a_mo a_ms a_mwas a_mtried a_msaved a_mpast a_mfar a_mdrift a_mline a_mtape a_mcommands m_changes m_thrown m_errorAt m_failedAt m_answer m_isSaved m_lined m_taped m_here m_commandMany, kAr g a_ms 130 m_s_v8, kAr g a_mfar 8 m_far_v8, kAr g a_mdrift 12 m_drift_14]) := hD
        refine lv_iload_n hx hb dX7_minutePasses_30 rfl (lv_at hl 1 rfl) ?_
        refine lv_icmp_ne (tgt := 38) hx hb dX7_minutePasses_31 (by decide) (fun c_31 => ?_) (fun c_31 => ?_)
        · have hw := hw.1 c_31
          refine lv_iconst (v := 0) hx hb dX7_minutePasses_38 (by decide) ?_
          refine lv_ior hx hb dX7_minutePasses_39 ?_
          refine lv_istore_n (lv' := [(2, .int (x2_14 ||| 0)), (0, .ref (a_mo 0)), (1, .int x1), (3, .int x3_14)]) hx hb dX7_minutePasses_40 rfl hl (by decide) rfl (fun ls hl => ?_)
          refine lv_iinc (v := (x3_14 + 1)) (lv' := [(3, .int (x3_14 + 1)), (2, .int (x2_14 ||| 0)), (0, .ref (a_mo 0)), (1, .int x1)]) hx hb dX7_minutePasses_41 hl (k := 3) rfl rfl (by decide) rfl (fun ls hl => ?_)
          refine lv_goto (tgt := 14) hx hb dX7_minutePasses_44 (by decide) ?_
          exact ih_14 m_drift_14 (x2_14 ||| 0) (x3_14 + 1) m_s_v8 m_far_v8 _ _ _ hw hP hD hS (lv_sub hl [2, 3, 1, 0] rfl)
        · have hw := hw.2 c_31
          refine lv_iconst (v := 1) hx hb dX7_minutePasses_34 (by decide) ?_
          refine lv_goto (tgt := 39) hx hb dX7_minutePasses_35 (by decide) ?_
          refine lv_ior hx hb dX7_minutePasses_39 ?_
          refine lv_istore_n (lv' := [(2, .int (x2_14 ||| 1)), (0, .ref (a_mo 0)), (1, .int x1), (3, .int x3_14)]) hx hb dX7_minutePasses_40 rfl hl (by decide) rfl (fun ls hl => ?_)
          refine lv_iinc (v := (x3_14 + 1)) (lv' := [(3, .int (x3_14 + 1)), (2, .int (x2_14 ||| 1)), (0, .ref (a_mo 0)), (1, .int x1)]) hx hb dX7_minutePasses_41 hl (k := 3) rfl rfl (by decide) rfl (fun ls hl => ?_)
          refine lv_goto (tgt := 14) hx hb dX7_minutePasses_44 (by decide) ?_
          exact ih_14 m_drift_14 (x2_14 ||| 1) (x3_14 + 1) m_s_v8 m_far_v8 _ _ _ hw hP hD hS (lv_sub hl [2, 3, 1, 0] rfl)
  refine lv_iconst (v := 0) hx hb dX7_minutePasses_0 (by decide) ?_
  refine lv_istore_n (lv' := [(2, .int 0), (0, .ref (a_mo 0)), (1, .int x1)]) hx hb dX7_minutePasses_1 rfl hl (by decide) rfl (fun ls hl => ?_)
  refine lv_aload_n hx hb dX7_minutePasses_2 rfl (lv_at hl 1 rfl) ?_
  refine va_get (D := g.1) (ci := 11) (v := .ref (a_ms 0)) (C := RX7) (T := TX7) (N := 20) hx hb hts inX7_minutePasses_X7 hown hE.1 hP 0 rfl rfl 0 (by decide) (gW hts 1 (.fieldLink RX7 9 "SnowDispatcherModel" "s" "[I") rfl) (fun _ h9 => h9) rfl dX7_minutePasses_3 ?_
  refine lv_iconst (v := 0) hx hb dX7_minutePasses_6 (by decide) ?_
  refine lv_dup2_11 hx hb dX7_minutePasses_7 rfl rfl ?_
  have h1 := hw.1
  have hw := hw.2
  refine va_iald hx hb hE.1 hP 1 0 rfl rfl h1 dX7_minutePasses_8 ?_
  refine lv_iconst (v := 1) hx hb dX7_minutePasses_9 (by decide) ?_
  refine lv_iadd hx hb dX7_minutePasses_10 ?_
  have h2 := hw.1
  have hw := hw.2
  refine va_iast hx hb hE.1 hP hD hS 1 0 rfl rfl h2 dX7_minutePasses_11 (fun H locs hP hD hS => ?_)
  have hP : va_P g.1 vwCl (List.flatten [kMo g a_mo a_ms a_mwas a_mtried a_msaved a_mpast a_mfar a_mdrift a_mline a_mtape a_mcommands m_changes m_thrown m_errorAt m_failedAt m_answer m_isSaved m_lined m_taped m_here m_commandMany, kAr g a_ms 130 (upd m_s (0 : Int32).toNatClampNeg ((m_s (0 : Int32).toNatClampNeg) + 1)), kAr g a_mfar 8 m_far, kAr g a_mdrift 12 m_drift]) H := hP
  have hD : va_D A (List.flatten [kMo g a_mo a_ms a_mwas a_mtried a_msaved a_mpast a_mfar a_mdrift a_mline a_mtape a_mcommands m_changes m_thrown m_errorAt m_failedAt m_answer m_isSaved m_lined m_taped m_here m_commandMany, kAr g a_ms 130 (upd m_s (0 : Int32).toNatClampNeg ((m_s (0 : Int32).toNatClampNeg) + 1)), kAr g a_mfar 8 m_far, kAr g a_mdrift 12 m_drift]) := hD
  refine lv_iconst (v := 0) hx hb dX7_minutePasses_12 (by decide) ?_
  refine lv_istore_n (lv' := [(3, .int 0), (2, .int 0), (0, .ref (a_mo 0)), (1, .int x1)]) hx hb dX7_minutePasses_13 rfl hl (by decide) rfl (fun ls hl => ?_)
  obtain ⟨n, hw⟩ := hw
  exact L14 n m_drift 0 0 (upd m_s (0 : Int32).toNatClampNeg ((m_s (0 : Int32).toNatClampNeg) + 1)) m_far _ _ _ hw hP hD hS (lv_sub hl [2, 3, 1, 0] rfl)
abbrev rmX7_waits : Room := { frames := 7, cells := 0, slots := 0, locals := 246 }
set_option maxRecDepth 20000 in
theorem inX7_waits_X7 : ∀ w ∈ wsX70, w ∈ wsX7_waits := by decide +kernel
set_option maxHeartbeats 4000000 in
set_option maxRecDepth 100000 in
theorem ctX7_waits (l : Launch) (g : GG) (a_mo : Nat → Nat) (a_ms : Nat → Nat) (a_mwas : Nat → Nat) (a_mtried : Nat → Nat) (a_msaved : Nat → Nat) (a_mpast : Nat → Nat) (a_mfar : Nat → Nat) (a_mdrift : Nat → Nat) (a_mline : Nat → Nat) (a_mtape : Nat → Nat) (a_mcommands : Nat → Nat) (sz : Nat) (m_changes : Int32) (m_thrown : Int32) (m_errorAt : Int32) (m_failedAt : Int32) (m_answer : Int32) (m_isSaved : Int32) (m_lined : Int32) (m_taped : Int32) (m_here : Int32) (m_commandMany : Int32) (m_s : Nat → Int32) (m_far : Nat → Int32) (m_drift : Nat → Int32) (x1 : Int32) {post : Int32 → Int32 → Int32 → (Nat → Int32) → (Nat → Int32) → (Nat → Int32) → Prop} (hw : wpX7_waits x1 m_thrown m_answer m_s m_far m_drift post) :
    Met l yX7_waits wsX7_waits rmX7_waits (gPc g sz (List.flatten [kMo g a_mo a_ms a_mwas a_mtried a_msaved a_mpast a_mfar a_mdrift a_mline a_mtape a_mcommands m_changes m_thrown m_errorAt m_failedAt m_answer m_isSaved m_lined m_taped m_here m_commandMany, kAr g a_ms 130 m_s, kAr g a_mfar 8 m_far, kAr g a_mdrift 12 m_drift]) [.ref (a_mo 0), .int x1]) (gQi5 post (fun u1 u2 u3 u4 u5 => gB g (List.flatten [kMo g a_mo a_ms a_mwas a_mtried a_msaved a_mpast a_mfar a_mdrift a_mline a_mtape a_mcommands m_changes m_thrown m_errorAt m_failedAt m_answer m_isSaved m_lined m_taped m_here m_commandMany, kAr g a_ms 130 m_s, kAr g a_mfar 8 m_far, kAr g a_mdrift 12 m_drift]) sz (List.flatten [kMo g a_mo a_ms a_mwas a_mtried a_msaved a_mpast a_mfar a_mdrift a_mline a_mtape a_mcommands m_changes u1 m_errorAt m_failedAt u2 m_isSaved m_lined m_taped m_here m_commandMany, kAr g a_ms 130 u3, kAr g a_mfar 8 u4, kAr g a_mdrift 12 u5])) (va_A (List.flatten [kMo g a_mo a_ms a_mwas a_mtried a_msaved a_mpast a_mfar a_mdrift a_mline a_mtape a_mcommands m_changes m_thrown m_errorAt m_failedAt m_answer m_isSaved m_lined m_taped m_here m_commandMany, kAr g a_ms 130 m_s, kAr g a_mfar 8 m_far, kAr g a_mdrift 12 m_drift]) sz)) 0 0 (va_A (List.flatten [kMo g a_mo a_ms a_mwas a_mtried a_msaved a_mpast a_mfar a_mdrift a_mline a_mtape a_mcommands m_changes m_thrown m_errorAt m_failedAt m_answer m_isSaved m_lined m_taped m_here m_commandMany, kAr g a_ms 130 m_s, kAr g a_mfar 8 m_far, kAr g a_mdrift 12 m_drift]) sz) := by
  refine gOf (cc := cX7_waits) (maxL := 4) (ret := (some .int)) (by decide) rfl (Nat.le_of_ble_eq_true rfl) ?_
  intro p e s m below meth c ls Q A hQ hx hb hr hml hts hown hlocks hE hA0 hsz hP hD hA hS hl
  have hl : lv_has ls 4 [(0, .ref (a_mo 0)), (1, .int x1)] := hl
  have L36 : ∀ (n : Nat) (x2_36 : Int32) (m_thrown_36 : Int32) (x3_36 : Int32) (m_answer_36 : Int32) (m_s_36 : Nat → Int32) (m_far_36 : Nat → Int32) (m_drift_36 : Nat → Int32) (H : Heap) (locs : List Loc) (ls : Array Slot), wpX7_waits_L36 x1 x2_36 m_thrown_36 post n x3_36 m_answer_36 m_s_36 m_far_36 m_drift_36 → va_P g.1 vwCl (List.flatten [kMo g a_mo a_ms a_mwas a_mtried a_msaved a_mpast a_mfar a_mdrift a_mline a_mtape a_mcommands m_changes m_thrown_36 m_errorAt m_failedAt m_answer_36 m_isSaved m_lined m_taped m_here m_commandMany, kAr g a_ms 130 m_s_36, kAr g a_mfar 8 m_far_36, kAr g a_mdrift 12 m_drift_36]) H → va_D A (List.flatten [kMo g a_mo a_ms a_mwas a_mtried a_msaved a_mpast a_mfar a_mdrift a_mline a_mtape a_mcommands m_changes m_thrown_36 m_errorAt m_failedAt m_answer_36 m_isSaved m_lined m_taped m_here m_commandMany, kAr g a_ms 130 m_s_36, kAr g a_mfar 8 m_far_36, kAr g a_mdrift 12 m_drift_36]) → va_S A s.heap H locs → lv_has ls 4 [(0, .ref (a_mo 0)), (1, .int x1), (2, .int x2_36), (3, .int x3_36)] → W p l e rmX7_waits s m (([.ref (a_mo 0), .int x1] : List Value).toArray) below meth c H locs 0 0 Q (F0 m 36 ls []) := by
    intro n_36
    induction n_36 with
    | zero => intro x2_36 m_thrown_36 x3_36 m_answer_36 m_s_36 m_far_36 m_drift_36 H locs ls hw; exact False.elim hw
    | succ n_36 ih_36 =>
      intro x2_36 m_thrown_36 x3_36 m_answer_36 m_s_36 m_far_36 m_drift_36 H locs ls hw hP hD hS hl
      refine lv_iload_n hx hb dX7_waits_36 rfl (lv_at hl 3 rfl) ?_
      refine lv_iload_n hx hb dX7_waits_37 rfl (lv_at hl 1 rfl) ?_
      refine lv_icmp_ge (tgt := 65) hx hb dX7_waits_38 (by decide) (fun c_38 => ?_) (fun c_38 => ?_)
      · have hw := hw.1 c_38
        refine lv_aload_n hx hb dX7_waits_65 rfl (lv_at hl 0 rfl) ?_
        refine va_get (D := g.1) (ci := 11) (v := .ref (a_ms 0)) (C := RX7) (T := TX7) (N := 20) hx hb hts inX7_waits_X7 hown hE.1 hP 0 rfl rfl 0 (by decide) (gW hts 1 (.fieldLink RX7 9 "SnowDispatcherModel" "s" "[I") rfl) (fun _ h9 => h9) rfl dX7_waits_66 ?_
        refine lv_bipush (v := 6) hx hb dX7_waits_69 (by decide) ?_
        have h4 := hw.1
        have hw := hw.2
        refine va_iald hx hb hE.1 hP 1 0 rfl rfl h4 dX7_waits_71 ?_
        refine lv_iload_n hx hb dX7_waits_72 rfl (lv_at hl 2 rfl) ?_
        refine lv_isub hx hb dX7_waits_73 ?_
        subst hQ
        exact W.iret hx hb hr (gRi5 (c1 := m_thrown_36) (c2 := m_answer_36) (c3 := m_s_36) (c4 := m_far_36) (c5 := m_drift_36) (wf := _) hA0 hsz hw hP hD hS) hS.2.2 dX7_waits_74
      · have hw := hw.2 c_38
        refine lv_aload_n hx hb dX7_waits_41 rfl (lv_at hl 0 rfl) ?_
        refine lv_aload_n hx hb dX7_waits_42 rfl (lv_at hl 0 rfl) ?_
        refine lv_bipush (v := 12) hx hb dX7_waits_43 (by decide) ?_
        refine gCi3 (gRunV (As := [.int 12]) (rest := [.ref (a_mo 0)]) ⟨hx, hb, hml, hown, hts⟩ (ctX7_minutePasses l g a_mo a_ms a_mwas a_mtried a_msaved a_mpast a_mfar a_mdrift a_mline a_mtape a_mcommands _ m_changes m_thrown_36 m_errorAt m_failedAt m_answer_36 m_isSaved m_lined m_taped m_here m_commandMany m_s_36 m_far_36 m_drift_36 12 hw) (cwV 1 hts gX7_waits_X7_minutePasses rfl rfl rfl (by decide +kernel) ⟨Nat.le_of_ble_eq_true rfl, Nat.le_of_ble_eq_true rfl⟩) hE (gSub hP [0, 1, 2, 3]) (gDSub hD [0, 1, 2, 3] rfl) 0 11 rfl rfl rfl rfl rfl hl.1 rfl (lv_room (Nat.le_of_ble_eq_true rfl)) dX7_waits_45 ⟨Nat.le_of_ble_eq_true rfl, Nat.le_of_ble_eq_true rfl⟩) hP hD hS hA [0, 1, 2, 3] rfl (fun _ _ _ => rfl) rfl (fun r5 m_s_v5 m_far_v5 m_drift_v5 H locs hw hP hD hS => ?_)
        have hP : va_P g.1 vwCl (List.flatten [kMo g a_mo a_ms a_mwas a_mtried a_msaved a_mpast a_mfar a_mdrift a_mline a_mtape a_mcommands m_changes m_thrown_36 m_errorAt m_failedAt m_answer_36 m_isSaved m_lined m_taped m_here m_commandMany, kAr g a_ms 130 m_s_v5, kAr g a_mfar 8 m_far_v5, kAr g a_mdrift 12 m_drift_v5]) H := hP
        have hD : va_D A (List.flatten [kMo g a_mo a_ms a_mwas a_mtried a_msaved a_mpast a_mfar a_mdrift a_mline a_mtape a_mcommands m_changes m_thrown_36 m_errorAt m_failedAt m_answer_36 m_isSaved m_lined m_taped m_here m_commandMany, kAr g a_ms 130 m_s_v5, kAr g a_mfar 8 m_far_v5, kAr g a_mdrift 12 m_drift_v5]) := hD
        refine lv_if_eq (tgt := 55) hx hb dX7_waits_48 (by decide) (fun c_48 => ?_) (fun c_48 => ?_)
        · have hw := hw.1 c_48
          refine lv_iconst (v := 0) hx hb dX7_waits_55 (by decide) ?_
          refine va_put (D := g.1) (ci := 11) (v := .int 0) (ty := .int) (C := RX7) (T := TX7) (N := 20) hx hb hts inX7_waits_X7 tyX7 tyX7_ok nmX7 hown hE.1 hP hD hS 0 rfl rfl 11 (by decide) (gW hts 2 (.fieldLink RX7 162 "SnowDispatcherModel" "answer" "I") rfl) (fun _ h9 => h9) rfl (by decide +kernel) rfl rfl (Nat.le_of_ble_eq_true rfl) dX7_waits_56 (fun H locs hP hD hS => ?_)
          have hP : va_P g.1 vwCl (List.flatten [kMo g a_mo a_ms a_mwas a_mtried a_msaved a_mpast a_mfar a_mdrift a_mline a_mtape a_mcommands m_changes m_thrown_36 m_errorAt m_failedAt 0 m_isSaved m_lined m_taped m_here m_commandMany, kAr g a_ms 130 m_s_v5, kAr g a_mfar 8 m_far_v5, kAr g a_mdrift 12 m_drift_v5]) H := hP
          have hD : va_D A (List.flatten [kMo g a_mo a_ms a_mwas a_mtried a_msaved a_mpast a_mfar a_mdrift a_mline a_mtape a_mcommands m_changes m_thrown_36 m_errorAt m_failedAt 0 m_isSaved m_lined m_taped m_here m_commandMany, kAr g a_ms 130 m_s_v5, kAr g a_mfar 8 m_far_v5, kAr g a_mdrift 12 m_drift_v5]) := hD
          refine lv_iinc (v := (x3_36 + 1)) (lv' := [(3, .int (x3_36 + 1)), (0, .ref (a_mo 0)), (1, .int x1), (2, .int x2_36)]) hx hb dX7_waits_59 hl (k := 3) rfl rfl (by decide) rfl (fun ls hl => ?_)
          refine lv_goto (tgt := 36) hx hb dX7_waits_62 (by decide) ?_
          exact ih_36 x2_36 m_thrown_36 (x3_36 + 1) 0 m_s_v5 m_far_v5 m_drift_v5 _ _ _ hw hP hD hS (lv_sub hl [1, 2, 3, 0] rfl)
        · have hw := hw.2 c_48
          refine lv_iconst (v := 1) hx hb dX7_waits_51 (by decide) ?_
          refine lv_goto (tgt := 56) hx hb dX7_waits_52 (by decide) ?_
          refine va_put (D := g.1) (ci := 11) (v := .int 1) (ty := .int) (C := RX7) (T := TX7) (N := 20) hx hb hts inX7_waits_X7 tyX7 tyX7_ok nmX7 hown hE.1 hP hD hS 0 rfl rfl 11 (by decide) (gW hts 2 (.fieldLink RX7 162 "SnowDispatcherModel" "answer" "I") rfl) (fun _ h9 => h9) rfl (by decide +kernel) rfl rfl (Nat.le_of_ble_eq_true rfl) dX7_waits_56 (fun H locs hP hD hS => ?_)
          have hP : va_P g.1 vwCl (List.flatten [kMo g a_mo a_ms a_mwas a_mtried a_msaved a_mpast a_mfar a_mdrift a_mline a_mtape a_mcommands m_changes m_thrown_36 m_errorAt m_failedAt 1 m_isSaved m_lined m_taped m_here m_commandMany, kAr g a_ms 130 m_s_v5, kAr g a_mfar 8 m_far_v5, kAr g a_mdrift 12 m_drift_v5]) H := hP
          have hD : va_D A (List.flatten [kMo g a_mo a_ms a_mwas a_mtried a_msaved a_mpast a_mfar a_mdrift a_mline a_mtape a_mcommands m_changes m_thrown_36 m_errorAt m_failedAt 1 m_isSaved m_lined m_taped m_here m_commandMany, kAr g a_ms 130 m_s_v5, kAr g a_mfar 8 m_far_v5, kAr g a_mdrift 12 m_drift_v5]) := hD
          refine lv_iinc (v := (x3_36 + 1)) (lv' := [(3, .int (x3_36 + 1)), (0, .ref (a_mo 0)), (1, .int x1), (2, .int x2_36)]) hx hb dX7_waits_59 hl (k := 3) rfl rfl (by decide) rfl (fun ls hl => ?_)
          refine lv_goto (tgt := 36) hx hb dX7_waits_62 (by decide) ?_
          exact ih_36 x2_36 m_thrown_36 (x3_36 + 1) 1 m_s_v5 m_far_v5 m_drift_v5 _ _ _ hw hP hD hS (lv_sub hl [1, 2, 3, 0] rfl)
  have J17 : ∀ (z1_17 : Int32) (m_thrown_17 : Int32) (m_answer_17 : Int32) (m_s_17 : Nat → Int32) (m_far_17 : Nat → Int32) (m_drift_17 : Nat → Int32) (H : Heap) (locs : List Loc) (ls : Array Slot), wpX7_waits_L17 x1 post z1_17 m_thrown_17 m_answer_17 m_s_17 m_far_17 m_drift_17 → va_P g.1 vwCl (List.flatten [kMo g a_mo a_ms a_mwas a_mtried a_msaved a_mpast a_mfar a_mdrift a_mline a_mtape a_mcommands m_changes m_thrown_17 m_errorAt m_failedAt m_answer_17 m_isSaved m_lined m_taped m_here m_commandMany, kAr g a_ms 130 m_s_17, kAr g a_mfar 8 m_far_17, kAr g a_mdrift 12 m_drift_17]) H → va_D A (List.flatten [kMo g a_mo a_ms a_mwas a_mtried a_msaved a_mpast a_mfar a_mdrift a_mline a_mtape a_mcommands m_changes m_thrown_17 m_errorAt m_failedAt m_answer_17 m_isSaved m_lined m_taped m_here m_commandMany, kAr g a_ms 130 m_s_17, kAr g a_mfar 8 m_far_17, kAr g a_mdrift 12 m_drift_17]) → va_S A s.heap H locs → lv_has ls 4 [(0, .ref (a_mo 0)), (1, .int x1)] → W p l e rmX7_waits s m (([.ref (a_mo 0), .int x1] : List Value).toArray) below meth c H locs 0 0 Q (F0 m 17 ls [.int z1_17, .ref (a_mo 0)]) := by
    intro z1_17 m_thrown_17 m_answer_17 m_s_17 m_far_17 m_drift_17 H locs ls hw hP hD hS hl
    refine lv_iconst (v := 1) hx hb dX7_waits_17 (by decide) ?_
    refine gCi1 (gRunV (As := [.int z1_17, .int 1]) (rest := []) ⟨hx, hb, hml, hown, hts⟩ (ctX7_isThrown l g a_mo a_ms a_mwas a_mtried a_msaved a_mpast a_mfar a_mdrift a_mline a_mtape a_mcommands _ m_changes m_thrown_17 m_errorAt m_failedAt m_answer_17 m_isSaved m_lined m_taped m_here m_commandMany z1_17 1 hw) (cwV 2 hts gX7_waits_X7_isThrown rfl rfl rfl (by decide +kernel) ⟨Nat.le_of_ble_eq_true rfl, Nat.le_of_ble_eq_true rfl⟩) hE (gSub hP [0]) (gDSub hD [0] rfl) 0 11 rfl rfl rfl rfl rfl hl.1 rfl (lv_room (Nat.le_of_ble_eq_true rfl)) dX7_waits_18 ⟨Nat.le_of_ble_eq_true rfl, Nat.le_of_ble_eq_true rfl⟩) hP hD hS hA [0] rfl (fun _ => rfl) rfl (fun r2 m_thrown_v2 H locs hw hP hD hS => ?_)
    have hP : va_P g.1 vwCl (List.flatten [kMo g a_mo a_ms a_mwas a_mtried a_msaved a_mpast a_mfar a_mdrift a_mline a_mtape a_mcommands m_changes m_thrown_v2 m_errorAt m_failedAt m_answer_17 m_isSaved m_lined m_taped m_here m_commandMany, kAr g a_ms 130 m_s_17, kAr g a_mfar 8 m_far_17, kAr g a_mdrift 12 m_drift_17]) H := hP
    have hD : va_D A (List.flatten [kMo g a_mo a_ms a_mwas a_mtried a_msaved a_mpast a_mfar a_mdrift a_mline a_mtape a_mcommands m_changes m_thrown_v2 m_errorAt m_failedAt m_answer_17 m_isSaved m_lined m_taped m_here m_commandMany, kAr g a_ms 130 m_s_17, kAr g a_mfar 8 m_far_17, kAr g a_mdrift 12 m_drift_17]) := hD
    refine lv_if_eq (tgt := 26) hx hb dX7_waits_21 (by decide) (fun c_21 => ?_) (fun c_21 => ?_)
    · have hw := hw.1 c_21
      refine lv_aload_n hx hb dX7_waits_26 rfl (lv_at hl 0 rfl) ?_
      refine va_get (D := g.1) (ci := 11) (v := .ref (a_ms 0)) (C := RX7) (T := TX7) (N := 20) hx hb hts inX7_waits_X7 hown hE.1 hP 0 rfl rfl 0 (by decide) (gW hts 1 (.fieldLink RX7 9 "SnowDispatcherModel" "s" "[I") rfl) (fun _ h9 => h9) rfl dX7_waits_27 ?_
      refine lv_bipush (v := 6) hx hb dX7_waits_30 (by decide) ?_
      have h3 := hw.1
      have hw := hw.2
      refine va_iald hx hb hE.1 hP 1 0 rfl rfl h3 dX7_waits_32 ?_
      refine lv_istore_n (lv' := [(2, .int (m_s_17 (6 : Int32).toNatClampNeg)), (0, .ref (a_mo 0)), (1, .int x1)]) hx hb dX7_waits_33 rfl hl (by decide) rfl (fun ls hl => ?_)
      refine lv_iconst (v := 0) hx hb dX7_waits_34 (by decide) ?_
      refine lv_istore_n (lv' := [(3, .int 0), (2, .int (m_s_17 (6 : Int32).toNatClampNeg)), (0, .ref (a_mo 0)), (1, .int x1)]) hx hb dX7_waits_35 rfl hl (by decide) rfl (fun ls hl => ?_)
      obtain ⟨n, hw⟩ := hw
      exact L36 n (m_s_17 (6 : Int32).toNatClampNeg) m_thrown_v2 0 m_answer_17 m_s_17 m_far_17 m_drift_17 _ _ _ hw hP hD hS (lv_sub hl [2, 3, 1, 0] rfl)
    · have hw := hw.2 c_21
      refine lv_iconst (v := 0) hx hb dX7_waits_24 (by decide) ?_
      subst hQ
      exact W.iret hx hb hr (gRi5 (c1 := m_thrown_v2) (c2 := m_answer_17) (c3 := m_s_17) (c4 := m_far_17) (c5 := m_drift_17) (wf := _) hA0 hsz hw hP hD hS) hS.2.2 dX7_waits_25
  refine lv_aload_n hx hb dX7_waits_0 rfl (lv_at hl 0 rfl) ?_
  refine lv_iload_n hx hb dX7_waits_1 rfl (lv_at hl 1 rfl) ?_
  refine lv_iconst (v := 1) hx hb dX7_waits_2 (by decide) ?_
  refine lv_sipush (v := 600) hx hb dX7_waits_3 (by decide) ?_
  refine gCi0 (gRunS (As := [.int x1, .int 1, .int 600]) (rest := [.ref (a_mo 0)]) ⟨hx, hb, hml, hown, hts⟩ (ctX7_isIn l g _ x1 1 600 hw) (va_cwS 3 hts gX7_waits_X7_isIn rfl rfl rfl (by decide +kernel) ⟨Nat.le_of_ble_eq_true rfl, Nat.le_of_ble_eq_true rfl⟩) hE (gSub hP []) (gDSub hD [] rfl) rfl rfl hl.1 rfl (lv_room (Nat.le_of_ble_eq_true rfl)) dX7_waits_6 ⟨Nat.le_of_ble_eq_true rfl, Nat.le_of_ble_eq_true rfl⟩) hP hD hS hA [] rfl rfl rfl (fun r1 H locs hw hP hD hS => ?_)
  have hP : va_P g.1 vwCl (List.flatten [kMo g a_mo a_ms a_mwas a_mtried a_msaved a_mpast a_mfar a_mdrift a_mline a_mtape a_mcommands m_changes m_thrown m_errorAt m_failedAt m_answer m_isSaved m_lined m_taped m_here m_commandMany, kAr g a_ms 130 m_s, kAr g a_mfar 8 m_far, kAr g a_mdrift 12 m_drift]) H := hP
  have hD : va_D A (List.flatten [kMo g a_mo a_ms a_mwas a_mtried a_msaved a_mpast a_mfar a_mdrift a_mline a_mtape a_mcommands m_changes m_thrown m_errorAt m_failedAt m_answer m_isSaved m_lined m_taped m_here m_commandMany, kAr g a_ms 130 m_s, kAr g a_mfar 8 m_far, kAr g a_mdrift 12 m_drift]) := hD
  refine lv_if_ne (tgt := 16) hx hb dX7_waits_9 (by decide) (fun c_9 => ?_) (fun c_9 => ?_)
  · have hw := hw.1 c_9
    refine lv_iconst (v := 0) hx hb dX7_waits_16 (by decide) ?_
    exact J17 0 m_thrown m_answer m_s m_far m_drift _ _ _ hw hP hD hS (lv_sub hl [0, 1] rfl)
  · have hw := hw.2 c_9
    refine lv_iconst (v := 1) hx hb dX7_waits_12 (by decide) ?_
    refine lv_goto (tgt := 17) hx hb dX7_waits_13 (by decide) ?_
    exact J17 1 m_thrown m_answer m_s m_far m_drift _ _ _ hw hP hD hS (lv_sub hl [0, 1] rfl)
abbrev rmX7_advance : Room := { frames := 8, cells := 0, slots := 0, locals := 270 }
set_option maxRecDepth 20000 in
theorem inX7_advance_X7 : ∀ w ∈ wsX70, w ∈ wsX7_advance := by decide +kernel
set_option maxHeartbeats 4000000 in
set_option maxRecDepth 100000 in
theorem ctX7_advance (l : Launch) (g : GG) (a_mo : Nat → Nat) (a_ms : Nat → Nat) (a_mwas : Nat → Nat) (a_mtried : Nat → Nat) (a_msaved : Nat → Nat) (a_mpast : Nat → Nat) (a_mfar : Nat → Nat) (a_mdrift : Nat → Nat) (a_mline : Nat → Nat) (a_mtape : Nat → Nat) (a_mcommands : Nat → Nat) (sz : Nat) (m_changes : Int32) (m_thrown : Int32) (m_errorAt : Int32) (m_failedAt : Int32) (m_answer : Int32) (m_isSaved : Int32) (m_lined : Int32) (m_taped : Int32) (m_here : Int32) (m_commandMany : Int32) (m_s : Nat → Int32) (m_was : Nat → Int32) (m_past : Nat → Int32) (m_far : Nat → Int32) (m_drift : Nat → Int32) (x1 : Int32) {post : Int32 → Int32 → Int32 → Int32 → (Nat → Int32) → (Nat → Int32) → (Nat → Int32) → (Nat → Int32) → (Nat → Int32) → Prop} (hw : wpX7_advance x1 m_changes m_thrown m_answer m_s m_was m_past m_far m_drift post) :
    Met l yX7_advance wsX7_advance rmX7_advance (gPc g sz (List.flatten [kMo g a_mo a_ms a_mwas a_mtried a_msaved a_mpast a_mfar a_mdrift a_mline a_mtape a_mcommands m_changes m_thrown m_errorAt m_failedAt m_answer m_isSaved m_lined m_taped m_here m_commandMany, kAr g a_ms 130 m_s, kAr g a_mwas 130 m_was, kAr g a_mpast 1040 m_past, kAr g a_mfar 8 m_far, kAr g a_mdrift 12 m_drift]) [.ref (a_mo 0), .int x1]) (gQi8 post (fun u1 u2 u3 u4 u5 u6 u7 u8 => gB g (List.flatten [kMo g a_mo a_ms a_mwas a_mtried a_msaved a_mpast a_mfar a_mdrift a_mline a_mtape a_mcommands m_changes m_thrown m_errorAt m_failedAt m_answer m_isSaved m_lined m_taped m_here m_commandMany, kAr g a_ms 130 m_s, kAr g a_mwas 130 m_was, kAr g a_mpast 1040 m_past, kAr g a_mfar 8 m_far, kAr g a_mdrift 12 m_drift]) sz (List.flatten [kMo g a_mo a_ms a_mwas a_mtried a_msaved a_mpast a_mfar a_mdrift a_mline a_mtape a_mcommands u1 u2 m_errorAt m_failedAt u3 m_isSaved m_lined m_taped m_here m_commandMany, kAr g a_ms 130 u4, kAr g a_mwas 130 u5, kAr g a_mpast 1040 u6, kAr g a_mfar 8 u7, kAr g a_mdrift 12 u8])) (va_A (List.flatten [kMo g a_mo a_ms a_mwas a_mtried a_msaved a_mpast a_mfar a_mdrift a_mline a_mtape a_mcommands m_changes m_thrown m_errorAt m_failedAt m_answer m_isSaved m_lined m_taped m_here m_commandMany, kAr g a_ms 130 m_s, kAr g a_mwas 130 m_was, kAr g a_mpast 1040 m_past, kAr g a_mfar 8 m_far, kAr g a_mdrift 12 m_drift]) sz)) 0 0 (va_A (List.flatten [kMo g a_mo a_ms a_mwas a_mtried a_msaved a_mpast a_mfar a_mdrift a_mline a_mtape a_mcommands m_changes m_thrown m_errorAt m_failedAt m_answer m_isSaved m_lined m_taped m_here m_commandMany, kAr g a_ms 130 m_s, kAr g a_mwas 130 m_was, kAr g a_mpast 1040 m_past, kAr g a_mfar 8 m_far, kAr g a_mdrift 12 m_drift]) sz) := by
  refine gOf (cc := cX7_advance) (maxL := 2) (ret := (some .int)) (by decide) rfl (Nat.le_of_ble_eq_true rfl) ?_
  intro p e s m below meth c ls Q A hQ hx hb hr hml hts hown hlocks hE hA0 hsz hP hD hA hS hl
  have hl : lv_has ls 2 [(0, .ref (a_mo 0)), (1, .int x1)] := hl
  refine lv_aload_n hx hb dX7_advance_0 rfl (lv_at hl 0 rfl) ?_
  refine gCv2 (gRunV (As := []) (rest := []) ⟨hx, hb, hml, hown, hts⟩ (ctX7_keeps l g a_mo a_ms a_mwas a_mtried a_msaved a_mpast a_mfar a_mdrift a_mline a_mtape a_mcommands _ m_changes m_thrown m_errorAt m_failedAt m_answer m_isSaved m_lined m_taped m_here m_commandMany m_s m_was hw) (cwV 0 hts gX7_advance_X7_keeps rfl rfl rfl (by decide +kernel) ⟨Nat.le_of_ble_eq_true rfl, Nat.le_of_ble_eq_true rfl⟩) hE (gSub hP [0, 1, 2]) (gDSub hD [0, 1, 2] rfl) 0 11 rfl rfl rfl rfl rfl hl.1 rfl (lv_room (Nat.le_of_ble_eq_true rfl)) dX7_advance_1 ⟨Nat.le_of_ble_eq_true rfl, Nat.le_of_ble_eq_true rfl⟩) hP hD hS hA [0, 1, 2] rfl (fun _ _ => rfl) rfl (fun m_thrown_v1 m_was_v1 H locs hw hP hD hS => ?_)
  have hP : va_P g.1 vwCl (List.flatten [kMo g a_mo a_ms a_mwas a_mtried a_msaved a_mpast a_mfar a_mdrift a_mline a_mtape a_mcommands m_changes m_thrown_v1 m_errorAt m_failedAt m_answer m_isSaved m_lined m_taped m_here m_commandMany, kAr g a_ms 130 m_s, kAr g a_mwas 130 m_was_v1, kAr g a_mpast 1040 m_past, kAr g a_mfar 8 m_far, kAr g a_mdrift 12 m_drift]) H := hP
  have hD : va_D A (List.flatten [kMo g a_mo a_ms a_mwas a_mtried a_msaved a_mpast a_mfar a_mdrift a_mline a_mtape a_mcommands m_changes m_thrown_v1 m_errorAt m_failedAt m_answer m_isSaved m_lined m_taped m_here m_commandMany, kAr g a_ms 130 m_s, kAr g a_mwas 130 m_was_v1, kAr g a_mpast 1040 m_past, kAr g a_mfar 8 m_far, kAr g a_mdrift 12 m_drift]) := hD
  refine lv_aload_n hx hb dX7_advance_4 rfl (lv_at hl 0 rfl) ?_
  refine lv_aload_n hx hb dX7_advance_5 rfl (lv_at hl 0 rfl) ?_
  refine lv_iload_n hx hb dX7_advance_6 rfl (lv_at hl 1 rfl) ?_
  refine gCi5 (gRunV (As := [.int x1]) (rest := [.ref (a_mo 0)]) ⟨hx, hb, hml, hown, hts⟩ (ctX7_waits l g a_mo a_ms a_mwas a_mtried a_msaved a_mpast a_mfar a_mdrift a_mline a_mtape a_mcommands _ m_changes m_thrown_v1 m_errorAt m_failedAt m_answer m_isSaved m_lined m_taped m_here m_commandMany m_s m_far m_drift x1 hw) (cwV 1 hts gX7_advance_X7_waits rfl rfl rfl (by decide +kernel) ⟨Nat.le_of_ble_eq_true rfl, Nat.le_of_ble_eq_true rfl⟩) hE (gSub hP [0, 1, 4, 5]) (gDSub hD [0, 1, 4, 5] rfl) 0 11 rfl rfl rfl rfl rfl hl.1 rfl (lv_room (Nat.le_of_ble_eq_true rfl)) dX7_advance_7 ⟨Nat.le_of_ble_eq_true rfl, Nat.le_of_ble_eq_true rfl⟩) hP hD hS hA [0, 1, 4, 5] rfl (fun _ _ _ _ _ => rfl) rfl (fun r2 m_thrown_v2 m_answer_v2 m_s_v2 m_far_v2 m_drift_v2 H locs hw hP hD hS => ?_)
  have hP : va_P g.1 vwCl (List.flatten [kMo g a_mo a_ms a_mwas a_mtried a_msaved a_mpast a_mfar a_mdrift a_mline a_mtape a_mcommands m_changes m_thrown_v2 m_errorAt m_failedAt m_answer_v2 m_isSaved m_lined m_taped m_here m_commandMany, kAr g a_ms 130 m_s_v2, kAr g a_mwas 130 m_was_v1, kAr g a_mpast 1040 m_past, kAr g a_mfar 8 m_far_v2, kAr g a_mdrift 12 m_drift_v2]) H := hP
  have hD : va_D A (List.flatten [kMo g a_mo a_ms a_mwas a_mtried a_msaved a_mpast a_mfar a_mdrift a_mline a_mtape a_mcommands m_changes m_thrown_v2 m_errorAt m_failedAt m_answer_v2 m_isSaved m_lined m_taped m_here m_commandMany, kAr g a_ms 130 m_s_v2, kAr g a_mwas 130 m_was_v1, kAr g a_mpast 1040 m_past, kAr g a_mfar 8 m_far_v2, kAr g a_mdrift 12 m_drift_v2]) := hD
  refine gCi2 (gRunV (As := [.int r2]) (rest := []) ⟨hx, hb, hml, hown, hts⟩ (ctX7_ends l g a_mo a_ms a_mwas a_mtried a_msaved a_mpast a_mfar a_mdrift a_mline a_mtape a_mcommands _ m_changes m_thrown_v2 m_errorAt m_failedAt m_answer_v2 m_isSaved m_lined m_taped m_here m_commandMany m_was_v1 m_past r2 hw) (cwV 1 hts gX7_advance_X7_ends rfl rfl rfl (by decide +kernel) ⟨Nat.le_of_ble_eq_true rfl, Nat.le_of_ble_eq_true rfl⟩) hE (gSub hP [0, 2, 3]) (gDSub hD [0, 2, 3] rfl) 0 11 rfl rfl rfl rfl rfl hl.1 rfl (lv_room (Nat.le_of_ble_eq_true rfl)) dX7_advance_10 ⟨Nat.le_of_ble_eq_true rfl, Nat.le_of_ble_eq_true rfl⟩) hP hD hS hA [0, 2, 3] rfl (fun _ _ => rfl) rfl (fun r3 m_changes_v3 m_past_v3 H locs hw hP hD hS => ?_)
  have hP : va_P g.1 vwCl (List.flatten [kMo g a_mo a_ms a_mwas a_mtried a_msaved a_mpast a_mfar a_mdrift a_mline a_mtape a_mcommands m_changes_v3 m_thrown_v2 m_errorAt m_failedAt m_answer_v2 m_isSaved m_lined m_taped m_here m_commandMany, kAr g a_ms 130 m_s_v2, kAr g a_mwas 130 m_was_v1, kAr g a_mpast 1040 m_past_v3, kAr g a_mfar 8 m_far_v2, kAr g a_mdrift 12 m_drift_v2]) H := hP
  have hD : va_D A (List.flatten [kMo g a_mo a_ms a_mwas a_mtried a_msaved a_mpast a_mfar a_mdrift a_mline a_mtape a_mcommands m_changes_v3 m_thrown_v2 m_errorAt m_failedAt m_answer_v2 m_isSaved m_lined m_taped m_here m_commandMany, kAr g a_ms 130 m_s_v2, kAr g a_mwas 130 m_was_v1, kAr g a_mpast 1040 m_past_v3, kAr g a_mfar 8 m_far_v2, kAr g a_mdrift 12 m_drift_v2]) := hD
  subst hQ
  exact W.iret hx hb hr (gRi8 (c1 := m_changes_v3) (c2 := m_thrown_v2) (c3 := m_answer_v2) (c4 := m_s_v2) (c5 := m_was_v1) (c6 := m_past_v3) (c7 := m_far_v2) (c8 := m_drift_v2) (wf := _) hA0 hsz hw hP hD hS) hS.2.2 dX7_advance_13
abbrev rmX7_streetCount : Room := { frames := 1, cells := 0, slots := 0, locals := 100 }
set_option maxRecDepth 20000 in
theorem inX7_streetCount_X7 : ∀ w ∈ wsX70, w ∈ wsX7_streetCount := by decide +kernel
set_option maxHeartbeats 4000000 in
set_option maxRecDepth 100000 in
theorem ctX7_streetCount (l : Launch) (g : GG) (a_mo : Nat → Nat) (a_ms : Nat → Nat) (a_mwas : Nat → Nat) (a_mtried : Nat → Nat) (a_msaved : Nat → Nat) (a_mpast : Nat → Nat) (a_mfar : Nat → Nat) (a_mdrift : Nat → Nat) (a_mline : Nat → Nat) (a_mtape : Nat → Nat) (a_mcommands : Nat → Nat) (sz : Nat) (m_changes : Int32) (m_thrown : Int32) (m_errorAt : Int32) (m_failedAt : Int32) (m_answer : Int32) (m_isSaved : Int32) (m_lined : Int32) (m_taped : Int32) (m_here : Int32) (m_commandMany : Int32) (m_s : Nat → Int32) {post : Int32 → Int32 → Prop} (hw : wpX7_streetCount m_thrown m_s post) :
    Met l yX7_streetCount wsX7_streetCount rmX7_streetCount (gPc g sz (List.flatten [kMo g a_mo a_ms a_mwas a_mtried a_msaved a_mpast a_mfar a_mdrift a_mline a_mtape a_mcommands m_changes m_thrown m_errorAt m_failedAt m_answer m_isSaved m_lined m_taped m_here m_commandMany, kAr g a_ms 130 m_s]) [.ref (a_mo 0)]) (gQi1 post (fun u1 => gB g (List.flatten [kMo g a_mo a_ms a_mwas a_mtried a_msaved a_mpast a_mfar a_mdrift a_mline a_mtape a_mcommands m_changes m_thrown m_errorAt m_failedAt m_answer m_isSaved m_lined m_taped m_here m_commandMany, kAr g a_ms 130 m_s]) sz (List.flatten [kMo g a_mo a_ms a_mwas a_mtried a_msaved a_mpast a_mfar a_mdrift a_mline a_mtape a_mcommands m_changes u1 m_errorAt m_failedAt m_answer m_isSaved m_lined m_taped m_here m_commandMany, kAr g a_ms 130 m_s])) (va_A (List.flatten [kMo g a_mo a_ms a_mwas a_mtried a_msaved a_mpast a_mfar a_mdrift a_mline a_mtape a_mcommands m_changes m_thrown m_errorAt m_failedAt m_answer m_isSaved m_lined m_taped m_here m_commandMany, kAr g a_ms 130 m_s]) sz)) 0 0 (va_A (List.flatten [kMo g a_mo a_ms a_mwas a_mtried a_msaved a_mpast a_mfar a_mdrift a_mline a_mtape a_mcommands m_changes m_thrown m_errorAt m_failedAt m_answer m_isSaved m_lined m_taped m_here m_commandMany, kAr g a_ms 130 m_s]) sz) := by
  refine gOf (cc := cX7_streetCount) (maxL := 1) (ret := (some .int)) (by decide) rfl (Nat.le_of_ble_eq_true rfl) ?_
  intro p e s m below meth c ls Q A hQ hx hb hr hml hts hown hlocks hE hA0 hsz hP hD hA hS hl
  have hl : lv_has ls 1 [(0, .ref (a_mo 0))] := hl
  refine lv_aload_n hx hb dX7_streetCount_0 rfl (lv_at hl 0 rfl) ?_
  refine lv_iconst (v := 0) hx hb dX7_streetCount_1 (by decide) ?_
  refine va_put (D := g.1) (ci := 11) (v := .int 0) (ty := .int) (C := RX7) (T := TX7) (N := 20) hx hb hts inX7_streetCount_X7 tyX7 tyX7_ok nmX7 hown hE.1 hP hD hS 0 rfl rfl 8 (by decide) (gW hts 1 (.fieldLink RX7 47 "SnowDispatcherModel" "thrown" "I") rfl) (fun _ h9 => h9) rfl (by decide +kernel) rfl rfl (Nat.le_of_ble_eq_true rfl) dX7_streetCount_2 (fun H locs hP hD hS => ?_)
  have hP : va_P g.1 vwCl (List.flatten [kMo g a_mo a_ms a_mwas a_mtried a_msaved a_mpast a_mfar a_mdrift a_mline a_mtape a_mcommands m_changes 0 m_errorAt m_failedAt m_answer m_isSaved m_lined m_taped m_here m_commandMany, kAr g a_ms 130 m_s]) H := hP
  have hD : va_D A (List.flatten [kMo g a_mo a_ms a_mwas a_mtried a_msaved a_mpast a_mfar a_mdrift a_mline a_mtape a_mcommands m_changes 0 m_errorAt m_failedAt m_answer m_isSaved m_lined m_taped m_here m_commandMany, kAr g a_ms 130 m_s]) := hD
  refine lv_aload_n hx hb dX7_streetCount_5 rfl (lv_at hl 0 rfl) ?_
  refine va_get (D := g.1) (ci := 11) (v := .ref (a_ms 0)) (C := RX7) (T := TX7) (N := 20) hx hb hts inX7_streetCount_X7 hown hE.1 hP 0 rfl rfl 0 (by decide) (gW hts 2 (.fieldLink RX7 9 "SnowDispatcherModel" "s" "[I") rfl) (fun _ h9 => h9) rfl dX7_streetCount_6 ?_
  refine lv_iconst (v := 1) hx hb dX7_streetCount_9 (by decide) ?_
  have h1 := hw.1
  have hw := hw.2
  refine va_iald hx hb hE.1 hP 1 0 rfl rfl h1 dX7_streetCount_10 ?_
  subst hQ
  exact W.iret hx hb hr (gRi1 (c1 := 0) (wf := _) hA0 hsz hw hP hD hS) hS.2.2 dX7_streetCount_11
abbrev rmX7_ofStreet : Room := { frames := 3, cells := 0, slots := 0, locals := 145 }
set_option maxRecDepth 20000 in
theorem inX7_ofStreet_X7 : ∀ w ∈ wsX70, w ∈ wsX7_ofStreet := by decide +kernel
set_option maxHeartbeats 4000000 in
set_option maxRecDepth 100000 in
theorem ctX7_ofStreet (l : Launch) (g : GG) (a_mo : Nat → Nat) (a_ms : Nat → Nat) (a_mwas : Nat → Nat) (a_mtried : Nat → Nat) (a_msaved : Nat → Nat) (a_mpast : Nat → Nat) (a_mfar : Nat → Nat) (a_mdrift : Nat → Nat) (a_mline : Nat → Nat) (a_mtape : Nat → Nat) (a_mcommands : Nat → Nat) (sz : Nat) (m_changes : Int32) (m_thrown : Int32) (m_errorAt : Int32) (m_failedAt : Int32) (m_answer : Int32) (m_isSaved : Int32) (m_lined : Int32) (m_taped : Int32) (m_here : Int32) (m_commandMany : Int32) (m_s : Nat → Int32) (x1 : Int32) (x2 : Int32) {post : Int32 → Int32 → Prop} (hw : wpX7_ofStreet x1 x2 m_thrown m_s post) :
    Met l yX7_ofStreet wsX7_ofStreet rmX7_ofStreet (gPc g sz (List.flatten [kMo g a_mo a_ms a_mwas a_mtried a_msaved a_mpast a_mfar a_mdrift a_mline a_mtape a_mcommands m_changes m_thrown m_errorAt m_failedAt m_answer m_isSaved m_lined m_taped m_here m_commandMany, kAr g a_ms 130 m_s]) [.ref (a_mo 0), .int x1, .int x2]) (gQi1 post (fun u1 => gB g (List.flatten [kMo g a_mo a_ms a_mwas a_mtried a_msaved a_mpast a_mfar a_mdrift a_mline a_mtape a_mcommands m_changes m_thrown m_errorAt m_failedAt m_answer m_isSaved m_lined m_taped m_here m_commandMany, kAr g a_ms 130 m_s]) sz (List.flatten [kMo g a_mo a_ms a_mwas a_mtried a_msaved a_mpast a_mfar a_mdrift a_mline a_mtape a_mcommands m_changes u1 m_errorAt m_failedAt m_answer m_isSaved m_lined m_taped m_here m_commandMany, kAr g a_ms 130 m_s])) (va_A (List.flatten [kMo g a_mo a_ms a_mwas a_mtried a_msaved a_mpast a_mfar a_mdrift a_mline a_mtape a_mcommands m_changes m_thrown m_errorAt m_failedAt m_answer m_isSaved m_lined m_taped m_here m_commandMany, kAr g a_ms 130 m_s]) sz)) 0 0 (va_A (List.flatten [kMo g a_mo a_ms a_mwas a_mtried a_msaved a_mpast a_mfar a_mdrift a_mline a_mtape a_mcommands m_changes m_thrown m_errorAt m_failedAt m_answer m_isSaved m_lined m_taped m_here m_commandMany, kAr g a_ms 130 m_s]) sz) := by
  refine gOf (cc := cX7_ofStreet) (maxL := 3) (ret := (some .int)) (by decide) rfl (Nat.le_of_ble_eq_true rfl) ?_
  intro p e s m below meth c ls Q A hQ hx hb hr hml hts hown hlocks hE hA0 hsz hP hD hA hS hl
  have hl : lv_has ls 3 [(0, .ref (a_mo 0)), (1, .int x1), (2, .int x2)] := hl
  have J14 : ∀ (z1_14 : Int32) (m_thrown_14 : Int32) (H : Heap) (locs : List Loc) (ls : Array Slot), wpX7_ofStreet_L14 x1 x2 m_s post z1_14 m_thrown_14 → va_P g.1 vwCl (List.flatten [kMo g a_mo a_ms a_mwas a_mtried a_msaved a_mpast a_mfar a_mdrift a_mline a_mtape a_mcommands m_changes m_thrown_14 m_errorAt m_failedAt m_answer m_isSaved m_lined m_taped m_here m_commandMany, kAr g a_ms 130 m_s]) H → va_D A (List.flatten [kMo g a_mo a_ms a_mwas a_mtried a_msaved a_mpast a_mfar a_mdrift a_mline a_mtape a_mcommands m_changes m_thrown_14 m_errorAt m_failedAt m_answer m_isSaved m_lined m_taped m_here m_commandMany, kAr g a_ms 130 m_s]) → va_S A s.heap H locs → lv_has ls 3 [(0, .ref (a_mo 0)), (1, .int x1), (2, .int x2)] → W p l e rmX7_ofStreet s m (([.ref (a_mo 0), .int x1, .int x2] : List Value).toArray) below meth c H locs 0 0 Q (F0 m 14 ls [.int z1_14, .ref (a_mo 0)]) := by
    intro z1_14 m_thrown_14 H locs ls hw hP hD hS hl
    refine lv_iconst (v := 1) hx hb dX7_ofStreet_14 (by decide) ?_
    refine gCi1 (gRunV (As := [.int z1_14, .int 1]) (rest := []) ⟨hx, hb, hml, hown, hts⟩ (ctX7_isThrown l g a_mo a_ms a_mwas a_mtried a_msaved a_mpast a_mfar a_mdrift a_mline a_mtape a_mcommands _ m_changes m_thrown_14 m_errorAt m_failedAt m_answer m_isSaved m_lined m_taped m_here m_commandMany z1_14 1 hw) (cwV 2 hts gX7_ofStreet_X7_isThrown rfl rfl rfl (by decide +kernel) ⟨Nat.le_of_ble_eq_true rfl, Nat.le_of_ble_eq_true rfl⟩) hE (gSub hP [0]) (gDSub hD [0] rfl) 0 11 rfl rfl rfl rfl rfl hl.1 rfl (lv_room (Nat.le_of_ble_eq_true rfl)) dX7_ofStreet_15 ⟨Nat.le_of_ble_eq_true rfl, Nat.le_of_ble_eq_true rfl⟩) hP hD hS hA [0] rfl (fun _ => rfl) rfl (fun r2 m_thrown_v2 H locs hw hP hD hS => ?_)
    have hP : va_P g.1 vwCl (List.flatten [kMo g a_mo a_ms a_mwas a_mtried a_msaved a_mpast a_mfar a_mdrift a_mline a_mtape a_mcommands m_changes m_thrown_v2 m_errorAt m_failedAt m_answer m_isSaved m_lined m_taped m_here m_commandMany, kAr g a_ms 130 m_s]) H := hP
    have hD : va_D A (List.flatten [kMo g a_mo a_ms a_mwas a_mtried a_msaved a_mpast a_mfar a_mdrift a_mline a_mtape a_mcommands m_changes m_thrown_v2 m_errorAt m_failedAt m_answer m_isSaved m_lined m_taped m_here m_commandMany, kAr g a_ms 130 m_s]) := hD
    refine lv_if_eq (tgt := 25) hx hb dX7_ofStreet_18 (by decide) (fun c_18 => ?_) (fun c_18 => ?_)
    · have hw := hw.1 c_18
      refine lv_aload_n hx hb dX7_ofStreet_25 rfl (lv_at hl 0 rfl) ?_
      refine lv_iload_n hx hb dX7_ofStreet_26 rfl (lv_at hl 1 rfl) ?_
      refine lv_iload_n hx hb dX7_ofStreet_27 rfl (lv_at hl 2 rfl) ?_
      refine gCi0 (gRunV (As := [.int x1, .int x2]) (rest := []) ⟨hx, hb, hml, hown, hts⟩ (ctX7_of l g a_mo a_ms a_mwas a_mtried a_msaved a_mpast a_mfar a_mdrift a_mline a_mtape a_mcommands _ m_changes m_thrown_v2 m_errorAt m_failedAt m_answer m_isSaved m_lined m_taped m_here m_commandMany m_s x1 x2 hw) (cwV 2 hts gX7_ofStreet_X7_of rfl rfl rfl (by decide +kernel) ⟨Nat.le_of_ble_eq_true rfl, Nat.le_of_ble_eq_true rfl⟩) hE (gSub hP [0, 1]) (gDSub hD [0, 1] rfl) 0 11 rfl rfl rfl rfl rfl hl.1 rfl (lv_room (Nat.le_of_ble_eq_true rfl)) dX7_ofStreet_28 ⟨Nat.le_of_ble_eq_true rfl, Nat.le_of_ble_eq_true rfl⟩) hP hD hS hA [0, 1] rfl rfl rfl (fun r3 H locs hw hP hD hS => ?_)
      have hP : va_P g.1 vwCl (List.flatten [kMo g a_mo a_ms a_mwas a_mtried a_msaved a_mpast a_mfar a_mdrift a_mline a_mtape a_mcommands m_changes m_thrown_v2 m_errorAt m_failedAt m_answer m_isSaved m_lined m_taped m_here m_commandMany, kAr g a_ms 130 m_s]) H := hP
      have hD : va_D A (List.flatten [kMo g a_mo a_ms a_mwas a_mtried a_msaved a_mpast a_mfar a_mdrift a_mline a_mtape a_mcommands m_changes m_thrown_v2 m_errorAt m_failedAt m_answer m_isSaved m_lined m_taped m_here m_commandMany, kAr g a_ms 130 m_s]) := hD
      subst hQ
      exact W.iret hx hb hr (gRi1 (c1 := m_thrown_v2) (wf := _) hA0 hsz hw hP hD hS) hS.2.2 dX7_ofStreet_31
    · have hw := hw.2 c_18
      refine lv_iconst (v := 0) hx hb dX7_ofStreet_21 (by decide) ?_
      refine lv_goto (tgt := 31) hx hb dX7_ofStreet_22 (by decide) ?_
      subst hQ
      exact W.iret hx hb hr (gRi1 (c1 := m_thrown_v2) (wf := _) hA0 hsz hw hP hD hS) hS.2.2 dX7_ofStreet_31
  refine lv_aload_n hx hb dX7_ofStreet_0 rfl (lv_at hl 0 rfl) ?_
  refine lv_aload_n hx hb dX7_ofStreet_1 rfl (lv_at hl 0 rfl) ?_
  refine lv_iload_n hx hb dX7_ofStreet_2 rfl (lv_at hl 1 rfl) ?_
  refine gCi0 (gRunV (As := [.int x1]) (rest := [.ref (a_mo 0)]) ⟨hx, hb, hml, hown, hts⟩ (ctX7_isStreet l g a_mo a_ms a_mwas a_mtried a_msaved a_mpast a_mfar a_mdrift a_mline a_mtape a_mcommands _ m_changes m_thrown m_errorAt m_failedAt m_answer m_isSaved m_lined m_taped m_here m_commandMany m_s x1 hw) (cwV 1 hts gX7_ofStreet_X7_isStreet rfl rfl rfl (by decide +kernel) ⟨Nat.le_of_ble_eq_true rfl, Nat.le_of_ble_eq_true rfl⟩) hE (gSub hP [0, 1]) (gDSub hD [0, 1] rfl) 0 11 rfl rfl rfl rfl rfl hl.1 rfl (lv_room (Nat.le_of_ble_eq_true rfl)) dX7_ofStreet_3 ⟨Nat.le_of_ble_eq_true rfl, Nat.le_of_ble_eq_true rfl⟩) hP hD hS hA [0, 1] rfl rfl rfl (fun r1 H locs hw hP hD hS => ?_)
  have hP : va_P g.1 vwCl (List.flatten [kMo g a_mo a_ms a_mwas a_mtried a_msaved a_mpast a_mfar a_mdrift a_mline a_mtape a_mcommands m_changes m_thrown m_errorAt m_failedAt m_answer m_isSaved m_lined m_taped m_here m_commandMany, kAr g a_ms 130 m_s]) H := hP
  have hD : va_D A (List.flatten [kMo g a_mo a_ms a_mwas a_mtried a_msaved a_mpast a_mfar a_mdrift a_mline a_mtape a_mcommands m_changes m_thrown m_errorAt m_failedAt m_answer m_isSaved m_lined m_taped m_here m_commandMany, kAr g a_ms 130 m_s]) := hD
  refine lv_if_ne (tgt := 13) hx hb dX7_ofStreet_6 (by decide) (fun c_6 => ?_) (fun c_6 => ?_)
  · have hw := hw.1 c_6
    refine lv_iconst (v := 0) hx hb dX7_ofStreet_13 (by decide) ?_
    exact J14 0 m_thrown _ _ _ hw hP hD hS (lv_sub hl [0, 1, 2] rfl)
  · have hw := hw.2 c_6
    refine lv_iconst (v := 1) hx hb dX7_ofStreet_9 (by decide) ?_
    refine lv_goto (tgt := 14) hx hb dX7_ofStreet_10 (by decide) ?_
    exact J14 1 m_thrown _ _ _ hw hP hD hS (lv_sub hl [0, 1, 2] rfl)
abbrev rmX7_lowerEnd : Room := { frames := 4, cells := 0, slots := 0, locals := 168 }
set_option maxRecDepth 20000 in
theorem inX7_lowerEnd_X7 : ∀ w ∈ wsX70, w ∈ wsX7_lowerEnd := by decide +kernel
set_option maxHeartbeats 4000000 in
set_option maxRecDepth 100000 in
theorem ctX7_lowerEnd (l : Launch) (g : GG) (a_mo : Nat → Nat) (a_ms : Nat → Nat) (a_mwas : Nat → Nat) (a_mtried : Nat → Nat) (a_msaved : Nat → Nat) (a_mpast : Nat → Nat) (a_mfar : Nat → Nat) (a_mdrift : Nat → Nat) (a_mline : Nat → Nat) (a_mtape : Nat → Nat) (a_mcommands : Nat → Nat) (sz : Nat) (m_changes : Int32) (m_thrown : Int32) (m_errorAt : Int32) (m_failedAt : Int32) (m_answer : Int32) (m_isSaved : Int32) (m_lined : Int32) (m_taped : Int32) (m_here : Int32) (m_commandMany : Int32) (m_s : Nat → Int32) (x1 : Int32) {post : Int32 → Int32 → Prop} (hw : wpX7_lowerEnd x1 m_thrown m_s post) :
    Met l yX7_lowerEnd wsX7_lowerEnd rmX7_lowerEnd (gPc g sz (List.flatten [kMo g a_mo a_ms a_mwas a_mtried a_msaved a_mpast a_mfar a_mdrift a_mline a_mtape a_mcommands m_changes m_thrown m_errorAt m_failedAt m_answer m_isSaved m_lined m_taped m_here m_commandMany, kAr g a_ms 130 m_s]) [.ref (a_mo 0), .int x1]) (gQi1 post (fun u1 => gB g (List.flatten [kMo g a_mo a_ms a_mwas a_mtried a_msaved a_mpast a_mfar a_mdrift a_mline a_mtape a_mcommands m_changes m_thrown m_errorAt m_failedAt m_answer m_isSaved m_lined m_taped m_here m_commandMany, kAr g a_ms 130 m_s]) sz (List.flatten [kMo g a_mo a_ms a_mwas a_mtried a_msaved a_mpast a_mfar a_mdrift a_mline a_mtape a_mcommands m_changes u1 m_errorAt m_failedAt m_answer m_isSaved m_lined m_taped m_here m_commandMany, kAr g a_ms 130 m_s])) (va_A (List.flatten [kMo g a_mo a_ms a_mwas a_mtried a_msaved a_mpast a_mfar a_mdrift a_mline a_mtape a_mcommands m_changes m_thrown m_errorAt m_failedAt m_answer m_isSaved m_lined m_taped m_here m_commandMany, kAr g a_ms 130 m_s]) sz)) 0 0 (va_A (List.flatten [kMo g a_mo a_ms a_mwas a_mtried a_msaved a_mpast a_mfar a_mdrift a_mline a_mtape a_mcommands m_changes m_thrown m_errorAt m_failedAt m_answer m_isSaved m_lined m_taped m_here m_commandMany, kAr g a_ms 130 m_s]) sz) := by
  refine gOf (cc := cX7_lowerEnd) (maxL := 2) (ret := (some .int)) (by decide) rfl (Nat.le_of_ble_eq_true rfl) ?_
  intro p e s m below meth c ls Q A hQ hx hb hr hml hts hown hlocks hE hA0 hsz hP hD hA hS hl
  have hl : lv_has ls 2 [(0, .ref (a_mo 0)), (1, .int x1)] := hl
  refine lv_aload_n hx hb dX7_lowerEnd_0 rfl (lv_at hl 0 rfl) ?_
  refine lv_iload_n hx hb dX7_lowerEnd_1 rfl (lv_at hl 1 rfl) ?_
  refine lv_iconst (v := 0) hx hb dX7_lowerEnd_2 (by decide) ?_
  refine gCi1 (gRunV (As := [.int x1, .int 0]) (rest := []) ⟨hx, hb, hml, hown, hts⟩ (ctX7_ofStreet l g a_mo a_ms a_mwas a_mtried a_msaved a_mpast a_mfar a_mdrift a_mline a_mtape a_mcommands _ m_changes m_thrown m_errorAt m_failedAt m_answer m_isSaved m_lined m_taped m_here m_commandMany m_s x1 0 hw) (cwV 2 hts gX7_lowerEnd_X7_ofStreet rfl rfl rfl (by decide +kernel) ⟨Nat.le_of_ble_eq_true rfl, Nat.le_of_ble_eq_true rfl⟩) hE (gSub hP [0, 1]) (gDSub hD [0, 1] rfl) 0 11 rfl rfl rfl rfl rfl hl.1 rfl (lv_room (Nat.le_of_ble_eq_true rfl)) dX7_lowerEnd_3 ⟨Nat.le_of_ble_eq_true rfl, Nat.le_of_ble_eq_true rfl⟩) hP hD hS hA [0, 1] rfl (fun _ => rfl) rfl (fun r1 m_thrown_v1 H locs hw hP hD hS => ?_)
  have hP : va_P g.1 vwCl (List.flatten [kMo g a_mo a_ms a_mwas a_mtried a_msaved a_mpast a_mfar a_mdrift a_mline a_mtape a_mcommands m_changes m_thrown_v1 m_errorAt m_failedAt m_answer m_isSaved m_lined m_taped m_here m_commandMany, kAr g a_ms 130 m_s]) H := hP
  have hD : va_D A (List.flatten [kMo g a_mo a_ms a_mwas a_mtried a_msaved a_mpast a_mfar a_mdrift a_mline a_mtape a_mcommands m_changes m_thrown_v1 m_errorAt m_failedAt m_answer m_isSaved m_lined m_taped m_here m_commandMany, kAr g a_ms 130 m_s]) := hD
  subst hQ
  exact W.iret hx hb hr (gRi1 (c1 := m_thrown_v1) (wf := _) hA0 hsz hw hP hD hS) hS.2.2 dX7_lowerEnd_6
abbrev rmX7_higherEnd : Room := { frames := 4, cells := 0, slots := 0, locals := 168 }
set_option maxRecDepth 20000 in
theorem inX7_higherEnd_X7 : ∀ w ∈ wsX70, w ∈ wsX7_higherEnd := by decide +kernel
set_option maxHeartbeats 4000000 in
set_option maxRecDepth 100000 in
theorem ctX7_higherEnd (l : Launch) (g : GG) (a_mo : Nat → Nat) (a_ms : Nat → Nat) (a_mwas : Nat → Nat) (a_mtried : Nat → Nat) (a_msaved : Nat → Nat) (a_mpast : Nat → Nat) (a_mfar : Nat → Nat) (a_mdrift : Nat → Nat) (a_mline : Nat → Nat) (a_mtape : Nat → Nat) (a_mcommands : Nat → Nat) (sz : Nat) (m_changes : Int32) (m_thrown : Int32) (m_errorAt : Int32) (m_failedAt : Int32) (m_answer : Int32) (m_isSaved : Int32) (m_lined : Int32) (m_taped : Int32) (m_here : Int32) (m_commandMany : Int32) (m_s : Nat → Int32) (x1 : Int32) {post : Int32 → Int32 → Prop} (hw : wpX7_higherEnd x1 m_thrown m_s post) :
    Met l yX7_higherEnd wsX7_higherEnd rmX7_higherEnd (gPc g sz (List.flatten [kMo g a_mo a_ms a_mwas a_mtried a_msaved a_mpast a_mfar a_mdrift a_mline a_mtape a_mcommands m_changes m_thrown m_errorAt m_failedAt m_answer m_isSaved m_lined m_taped m_here m_commandMany, kAr g a_ms 130 m_s]) [.ref (a_mo 0), .int x1]) (gQi1 post (fun u1 => gB g (List.flatten [kMo g a_mo a_ms a_mwas a_mtried a_msaved a_mpast a_mfar a_mdrift a_mline a_mtape a_mcommands m_changes m_thrown m_errorAt m_failedAt m_answer m_isSaved m_lined m_taped m_here m_commandMany, kAr g a_ms 130 m_s]) sz (List.flatten [kMo g a_mo a_ms a_mwas a_mtried a_msaved a_mpast a_mfar a_mdrift a_mline a_mtape a_mcommands m_changes u1 m_errorAt m_failedAt m_answer m_isSaved m_lined m_taped m_here m_commandMany, kAr g a_ms 130 m_s])) (va_A (List.flatten [kMo g a_mo a_ms a_mwas a_mtried a_msaved a_mpast a_mfar a_mdrift a_mline a_mtape a_mcommands m_changes m_thrown m_errorAt m_failedAt m_answer m_isSaved m_lined m_taped m_here m_commandMany, kAr g a_ms 130 m_s]) sz)) 0 0 (va_A (List.flatten [kMo g a_mo a_ms a_mwas a_mtried a_msaved a_mpast a_mfar a_mdrift a_mline a_mtape a_mcommands m_changes m_thrown m_errorAt m_failedAt m_answer m_isSaved m_lined m_taped m_here m_commandMany, kAr g a_ms 130 m_s]) sz) := by
  refine gOf (cc := cX7_higherEnd) (maxL := 2) (ret := (some .int)) (by decide) rfl (Nat.le_of_ble_eq_true rfl) ?_
  intro p e s m below meth c ls Q A hQ hx hb hr hml hts hown hlocks hE hA0 hsz hP hD hA hS hl
  have hl : lv_has ls 2 [(0, .ref (a_mo 0)), (1, .int x1)] := hl
  refine lv_aload_n hx hb dX7_higherEnd_0 rfl (lv_at hl 0 rfl) ?_
  refine lv_iload_n hx hb dX7_higherEnd_1 rfl (lv_at hl 1 rfl) ?_
  refine lv_iconst (v := 1) hx hb dX7_higherEnd_2 (by decide) ?_
  refine gCi1 (gRunV (As := [.int x1, .int 1]) (rest := []) ⟨hx, hb, hml, hown, hts⟩ (ctX7_ofStreet l g a_mo a_ms a_mwas a_mtried a_msaved a_mpast a_mfar a_mdrift a_mline a_mtape a_mcommands _ m_changes m_thrown m_errorAt m_failedAt m_answer m_isSaved m_lined m_taped m_here m_commandMany m_s x1 1 hw) (cwV 2 hts gX7_higherEnd_X7_ofStreet rfl rfl rfl (by decide +kernel) ⟨Nat.le_of_ble_eq_true rfl, Nat.le_of_ble_eq_true rfl⟩) hE (gSub hP [0, 1]) (gDSub hD [0, 1] rfl) 0 11 rfl rfl rfl rfl rfl hl.1 rfl (lv_room (Nat.le_of_ble_eq_true rfl)) dX7_higherEnd_3 ⟨Nat.le_of_ble_eq_true rfl, Nat.le_of_ble_eq_true rfl⟩) hP hD hS hA [0, 1] rfl (fun _ => rfl) rfl (fun r1 m_thrown_v1 H locs hw hP hD hS => ?_)
  have hP : va_P g.1 vwCl (List.flatten [kMo g a_mo a_ms a_mwas a_mtried a_msaved a_mpast a_mfar a_mdrift a_mline a_mtape a_mcommands m_changes m_thrown_v1 m_errorAt m_failedAt m_answer m_isSaved m_lined m_taped m_here m_commandMany, kAr g a_ms 130 m_s]) H := hP
  have hD : va_D A (List.flatten [kMo g a_mo a_ms a_mwas a_mtried a_msaved a_mpast a_mfar a_mdrift a_mline a_mtape a_mcommands m_changes m_thrown_v1 m_errorAt m_failedAt m_answer m_isSaved m_lined m_taped m_here m_commandMany, kAr g a_ms 130 m_s]) := hD
  subst hQ
  exact W.iret hx hb hr (gRi1 (c1 := m_thrown_v1) (wf := _) hA0 hsz hw hP hD hS) hS.2.2 dX7_higherEnd_6
abbrev rmX7_streetClass : Room := { frames := 4, cells := 0, slots := 0, locals := 168 }
set_option maxRecDepth 20000 in
theorem inX7_streetClass_X7 : ∀ w ∈ wsX70, w ∈ wsX7_streetClass := by decide +kernel
set_option maxHeartbeats 4000000 in
set_option maxRecDepth 100000 in
theorem ctX7_streetClass (l : Launch) (g : GG) (a_mo : Nat → Nat) (a_ms : Nat → Nat) (a_mwas : Nat → Nat) (a_mtried : Nat → Nat) (a_msaved : Nat → Nat) (a_mpast : Nat → Nat) (a_mfar : Nat → Nat) (a_mdrift : Nat → Nat) (a_mline : Nat → Nat) (a_mtape : Nat → Nat) (a_mcommands : Nat → Nat) (sz : Nat) (m_changes : Int32) (m_thrown : Int32) (m_errorAt : Int32) (m_failedAt : Int32) (m_answer : Int32) (m_isSaved : Int32) (m_lined : Int32) (m_taped : Int32) (m_here : Int32) (m_commandMany : Int32) (m_s : Nat → Int32) (x1 : Int32) {post : Int32 → Int32 → Prop} (hw : wpX7_streetClass x1 m_thrown m_s post) :
    Met l yX7_streetClass wsX7_streetClass rmX7_streetClass (gPc g sz (List.flatten [kMo g a_mo a_ms a_mwas a_mtried a_msaved a_mpast a_mfar a_mdrift a_mline a_mtape a_mcommands m_changes m_thrown m_errorAt m_failedAt m_answer m_isSaved m_lined m_taped m_here m_commandMany, kAr g a_ms 130 m_s]) [.ref (a_mo 0), .int x1]) (gQi1 post (fun u1 => gB g (List.flatten [kMo g a_mo a_ms a_mwas a_mtried a_msaved a_mpast a_mfar a_mdrift a_mline a_mtape a_mcommands m_changes m_thrown m_errorAt m_failedAt m_answer m_isSaved m_lined m_taped m_here m_commandMany, kAr g a_ms 130 m_s]) sz (List.flatten [kMo g a_mo a_ms a_mwas a_mtried a_msaved a_mpast a_mfar a_mdrift a_mline a_mtape a_mcommands m_changes u1 m_errorAt m_failedAt m_answer m_isSaved m_lined m_taped m_here m_commandMany, kAr g a_ms 130 m_s])) (va_A (List.flatten [kMo g a_mo a_ms a_mwas a_mtried a_msaved a_mpast a_mfar a_mdrift a_mline a_mtape a_mcommands m_changes m_thrown m_errorAt m_failedAt m_answer m_isSaved m_lined m_taped m_here m_commandMany, kAr g a_ms 130 m_s]) sz)) 0 0 (va_A (List.flatten [kMo g a_mo a_ms a_mwas a_mtried a_msaved a_mpast a_mfar a_mdrift a_mline a_mtape a_mcommands m_changes m_thrown m_errorAt m_failedAt m_answer m_isSaved m_lined m_taped m_here m_commandMany, kAr g a_ms 130 m_s]) sz) := by
  refine gOf (cc := cX7_streetClass) (maxL := 2) (ret := (some .char)) (by decide) rfl (Nat.le_of_ble_eq_true rfl) ?_
  intro p e s m below meth c ls Q A hQ hx hb hr hml hts hown hlocks hE hA0 hsz hP hD hA hS hl
  have hl : lv_has ls 2 [(0, .ref (a_mo 0)), (1, .int x1)] := hl
  refine lv_aload_n hx hb dX7_streetClass_0 rfl (lv_at hl 0 rfl) ?_
  refine lv_iload_n hx hb dX7_streetClass_1 rfl (lv_at hl 1 rfl) ?_
  refine lv_iconst (v := 2) hx hb dX7_streetClass_2 (by decide) ?_
  refine gCi1 (gRunV (As := [.int x1, .int 2]) (rest := []) ⟨hx, hb, hml, hown, hts⟩ (ctX7_ofStreet l g a_mo a_ms a_mwas a_mtried a_msaved a_mpast a_mfar a_mdrift a_mline a_mtape a_mcommands _ m_changes m_thrown m_errorAt m_failedAt m_answer m_isSaved m_lined m_taped m_here m_commandMany m_s x1 2 hw) (cwV 2 hts gX7_streetClass_X7_ofStreet rfl rfl rfl (by decide +kernel) ⟨Nat.le_of_ble_eq_true rfl, Nat.le_of_ble_eq_true rfl⟩) hE (gSub hP [0, 1]) (gDSub hD [0, 1] rfl) 0 11 rfl rfl rfl rfl rfl hl.1 rfl (lv_room (Nat.le_of_ble_eq_true rfl)) dX7_streetClass_3 ⟨Nat.le_of_ble_eq_true rfl, Nat.le_of_ble_eq_true rfl⟩) hP hD hS hA [0, 1] rfl (fun _ => rfl) rfl (fun r1 m_thrown_v1 H locs hw hP hD hS => ?_)
  have hP : va_P g.1 vwCl (List.flatten [kMo g a_mo a_ms a_mwas a_mtried a_msaved a_mpast a_mfar a_mdrift a_mline a_mtape a_mcommands m_changes m_thrown_v1 m_errorAt m_failedAt m_answer m_isSaved m_lined m_taped m_here m_commandMany, kAr g a_ms 130 m_s]) H := hP
  have hD : va_D A (List.flatten [kMo g a_mo a_ms a_mwas a_mtried a_msaved a_mpast a_mfar a_mdrift a_mline a_mtape a_mcommands m_changes m_thrown_v1 m_errorAt m_failedAt m_answer m_isSaved m_lined m_taped m_here m_commandMany, kAr g a_ms 130 m_s]) := hD
  refine lv_i2c (v := (r1.toUInt32 % 65536).toInt32) hx hb dX7_streetClass_6 rfl ?_
  have h2 := hw.1
  have hw := hw.2
  subst hQ
  exact W.zret (ty := .char) hx hb hr h2 (gRi1 (c1 := m_thrown_v1) (wf := _) hA0 hsz hw hP hD hS) hS.2.2 dX7_streetClass_7
abbrev rmX7_length : Room := { frames := 4, cells := 0, slots := 0, locals := 168 }
set_option maxRecDepth 20000 in
theorem inX7_length_X7 : ∀ w ∈ wsX70, w ∈ wsX7_length := by decide +kernel
set_option maxHeartbeats 4000000 in
set_option maxRecDepth 100000 in
theorem ctX7_length (l : Launch) (g : GG) (a_mo : Nat → Nat) (a_ms : Nat → Nat) (a_mwas : Nat → Nat) (a_mtried : Nat → Nat) (a_msaved : Nat → Nat) (a_mpast : Nat → Nat) (a_mfar : Nat → Nat) (a_mdrift : Nat → Nat) (a_mline : Nat → Nat) (a_mtape : Nat → Nat) (a_mcommands : Nat → Nat) (sz : Nat) (m_changes : Int32) (m_thrown : Int32) (m_errorAt : Int32) (m_failedAt : Int32) (m_answer : Int32) (m_isSaved : Int32) (m_lined : Int32) (m_taped : Int32) (m_here : Int32) (m_commandMany : Int32) (m_s : Nat → Int32) (x1 : Int32) {post : Int32 → Int32 → Prop} (hw : wpX7_length x1 m_thrown m_s post) :
    Met l yX7_length wsX7_length rmX7_length (gPc g sz (List.flatten [kMo g a_mo a_ms a_mwas a_mtried a_msaved a_mpast a_mfar a_mdrift a_mline a_mtape a_mcommands m_changes m_thrown m_errorAt m_failedAt m_answer m_isSaved m_lined m_taped m_here m_commandMany, kAr g a_ms 130 m_s]) [.ref (a_mo 0), .int x1]) (gQi1 post (fun u1 => gB g (List.flatten [kMo g a_mo a_ms a_mwas a_mtried a_msaved a_mpast a_mfar a_mdrift a_mline a_mtape a_mcommands m_changes m_thrown m_errorAt m_failedAt m_answer m_isSaved m_lined m_taped m_here m_commandMany, kAr g a_ms 130 m_s]) sz (List.flatten [kMo g a_mo a_ms a_mwas a_mtried a_msaved a_mpast a_mfar a_mdrift a_mline a_mtape a_mcommands m_changes u1 m_errorAt m_failedAt m_answer m_isSaved m_lined m_taped m_here m_commandMany, kAr g a_ms 130 m_s])) (va_A (List.flatten [kMo g a_mo a_ms a_mwas a_mtried a_msaved a_mpast a_mfar a_mdrift a_mline a_mtape a_mcommands m_changes m_thrown m_errorAt m_failedAt m_answer m_isSaved m_lined m_taped m_here m_commandMany, kAr g a_ms 130 m_s]) sz)) 0 0 (va_A (List.flatten [kMo g a_mo a_ms a_mwas a_mtried a_msaved a_mpast a_mfar a_mdrift a_mline a_mtape a_mcommands m_changes m_thrown m_errorAt m_failedAt m_answer m_isSaved m_lined m_taped m_here m_commandMany, kAr g a_ms 130 m_s]) sz) := by
  refine gOf (cc := cX7_length) (maxL := 2) (ret := (some .int)) (by decide) rfl (Nat.le_of_ble_eq_true rfl) ?_
  intro p e s m below meth c ls Q A hQ hx hb hr hml hts hown hlocks hE hA0 hsz hP hD hA hS hl
  have hl : lv_has ls 2 [(0, .ref (a_mo 0)), (1, .int x1)] := hl
  refine lv_aload_n hx hb dX7_length_0 rfl (lv_at hl 0 rfl) ?_
  refine lv_iload_n hx hb dX7_length_1 rfl (lv_at hl 1 rfl) ?_
  refine lv_iconst (v := 3) hx hb dX7_length_2 (by decide) ?_
  refine gCi1 (gRunV (As := [.int x1, .int 3]) (rest := []) ⟨hx, hb, hml, hown, hts⟩ (ctX7_ofStreet l g a_mo a_ms a_mwas a_mtried a_msaved a_mpast a_mfar a_mdrift a_mline a_mtape a_mcommands _ m_changes m_thrown m_errorAt m_failedAt m_answer m_isSaved m_lined m_taped m_here m_commandMany m_s x1 3 hw) (cwV 2 hts gX7_length_X7_ofStreet rfl rfl rfl (by decide +kernel) ⟨Nat.le_of_ble_eq_true rfl, Nat.le_of_ble_eq_true rfl⟩) hE (gSub hP [0, 1]) (gDSub hD [0, 1] rfl) 0 11 rfl rfl rfl rfl rfl hl.1 rfl (lv_room (Nat.le_of_ble_eq_true rfl)) dX7_length_3 ⟨Nat.le_of_ble_eq_true rfl, Nat.le_of_ble_eq_true rfl⟩) hP hD hS hA [0, 1] rfl (fun _ => rfl) rfl (fun r1 m_thrown_v1 H locs hw hP hD hS => ?_)
  have hP : va_P g.1 vwCl (List.flatten [kMo g a_mo a_ms a_mwas a_mtried a_msaved a_mpast a_mfar a_mdrift a_mline a_mtape a_mcommands m_changes m_thrown_v1 m_errorAt m_failedAt m_answer m_isSaved m_lined m_taped m_here m_commandMany, kAr g a_ms 130 m_s]) H := hP
  have hD : va_D A (List.flatten [kMo g a_mo a_ms a_mwas a_mtried a_msaved a_mpast a_mfar a_mdrift a_mline a_mtape a_mcommands m_changes m_thrown_v1 m_errorAt m_failedAt m_answer m_isSaved m_lined m_taped m_here m_commandMany, kAr g a_ms 130 m_s]) := hD
  subst hQ
  exact W.iret hx hb hr (gRi1 (c1 := m_thrown_v1) (wf := _) hA0 hsz hw hP hD hS) hS.2.2 dX7_length_6
abbrev rmX7_depth : Room := { frames := 4, cells := 0, slots := 0, locals := 168 }
set_option maxRecDepth 20000 in
theorem inX7_depth_X7 : ∀ w ∈ wsX70, w ∈ wsX7_depth := by decide +kernel
set_option maxHeartbeats 4000000 in
set_option maxRecDepth 100000 in
theorem ctX7_depth (l : Launch) (g : GG) (a_mo : Nat → Nat) (a_ms : Nat → Nat) (a_mwas : Nat → Nat) (a_mtried : Nat → Nat) (a_msaved : Nat → Nat) (a_mpast : Nat → Nat) (a_mfar : Nat → Nat) (a_mdrift : Nat → Nat) (a_mline : Nat → Nat) (a_mtape : Nat → Nat) (a_mcommands : Nat → Nat) (sz : Nat) (m_changes : Int32) (m_thrown : Int32) (m_errorAt : Int32) (m_failedAt : Int32) (m_answer : Int32) (m_isSaved : Int32) (m_lined : Int32) (m_taped : Int32) (m_here : Int32) (m_commandMany : Int32) (m_s : Nat → Int32) (x1 : Int32) {post : Int32 → Int32 → Prop} (hw : wpX7_depth x1 m_thrown m_s post) :
    Met l yX7_depth wsX7_depth rmX7_depth (gPc g sz (List.flatten [kMo g a_mo a_ms a_mwas a_mtried a_msaved a_mpast a_mfar a_mdrift a_mline a_mtape a_mcommands m_changes m_thrown m_errorAt m_failedAt m_answer m_isSaved m_lined m_taped m_here m_commandMany, kAr g a_ms 130 m_s]) [.ref (a_mo 0), .int x1]) (gQi1 post (fun u1 => gB g (List.flatten [kMo g a_mo a_ms a_mwas a_mtried a_msaved a_mpast a_mfar a_mdrift a_mline a_mtape a_mcommands m_changes m_thrown m_errorAt m_failedAt m_answer m_isSaved m_lined m_taped m_here m_commandMany, kAr g a_ms 130 m_s]) sz (List.flatten [kMo g a_mo a_ms a_mwas a_mtried a_msaved a_mpast a_mfar a_mdrift a_mline a_mtape a_mcommands m_changes u1 m_errorAt m_failedAt m_answer m_isSaved m_lined m_taped m_here m_commandMany, kAr g a_ms 130 m_s])) (va_A (List.flatten [kMo g a_mo a_ms a_mwas a_mtried a_msaved a_mpast a_mfar a_mdrift a_mline a_mtape a_mcommands m_changes m_thrown m_errorAt m_failedAt m_answer m_isSaved m_lined m_taped m_here m_commandMany, kAr g a_ms 130 m_s]) sz)) 0 0 (va_A (List.flatten [kMo g a_mo a_ms a_mwas a_mtried a_msaved a_mpast a_mfar a_mdrift a_mline a_mtape a_mcommands m_changes m_thrown m_errorAt m_failedAt m_answer m_isSaved m_lined m_taped m_here m_commandMany, kAr g a_ms 130 m_s]) sz) := by
  refine gOf (cc := cX7_depth) (maxL := 2) (ret := (some .int)) (by decide) rfl (Nat.le_of_ble_eq_true rfl) ?_
  intro p e s m below meth c ls Q A hQ hx hb hr hml hts hown hlocks hE hA0 hsz hP hD hA hS hl
  have hl : lv_has ls 2 [(0, .ref (a_mo 0)), (1, .int x1)] := hl
  refine lv_aload_n hx hb dX7_depth_0 rfl (lv_at hl 0 rfl) ?_
  refine lv_iload_n hx hb dX7_depth_1 rfl (lv_at hl 1 rfl) ?_
  refine lv_iconst (v := 4) hx hb dX7_depth_2 (by decide) ?_
  refine gCi1 (gRunV (As := [.int x1, .int 4]) (rest := []) ⟨hx, hb, hml, hown, hts⟩ (ctX7_ofStreet l g a_mo a_ms a_mwas a_mtried a_msaved a_mpast a_mfar a_mdrift a_mline a_mtape a_mcommands _ m_changes m_thrown m_errorAt m_failedAt m_answer m_isSaved m_lined m_taped m_here m_commandMany m_s x1 4 hw) (cwV 2 hts gX7_depth_X7_ofStreet rfl rfl rfl (by decide +kernel) ⟨Nat.le_of_ble_eq_true rfl, Nat.le_of_ble_eq_true rfl⟩) hE (gSub hP [0, 1]) (gDSub hD [0, 1] rfl) 0 11 rfl rfl rfl rfl rfl hl.1 rfl (lv_room (Nat.le_of_ble_eq_true rfl)) dX7_depth_3 ⟨Nat.le_of_ble_eq_true rfl, Nat.le_of_ble_eq_true rfl⟩) hP hD hS hA [0, 1] rfl (fun _ => rfl) rfl (fun r1 m_thrown_v1 H locs hw hP hD hS => ?_)
  have hP : va_P g.1 vwCl (List.flatten [kMo g a_mo a_ms a_mwas a_mtried a_msaved a_mpast a_mfar a_mdrift a_mline a_mtape a_mcommands m_changes m_thrown_v1 m_errorAt m_failedAt m_answer m_isSaved m_lined m_taped m_here m_commandMany, kAr g a_ms 130 m_s]) H := hP
  have hD : va_D A (List.flatten [kMo g a_mo a_ms a_mwas a_mtried a_msaved a_mpast a_mfar a_mdrift a_mline a_mtape a_mcommands m_changes m_thrown_v1 m_errorAt m_failedAt m_answer m_isSaved m_lined m_taped m_here m_commandMany, kAr g a_ms 130 m_s]) := hD
  subst hQ
  exact W.iret hx hb hr (gRi1 (c1 := m_thrown_v1) (wf := _) hA0 hsz hw hP hD hS) hS.2.2 dX7_depth_6
abbrev rmX7_isOverdue : Room := { frames := 4, cells := 0, slots := 0, locals := 167 }
set_option maxRecDepth 20000 in
theorem inX7_isOverdue_X7 : ∀ w ∈ wsX70, w ∈ wsX7_isOverdue := by decide +kernel
set_option maxHeartbeats 4000000 in
set_option maxRecDepth 100000 in
theorem ctX7_isOverdue (l : Launch) (g : GG) (a_mo : Nat → Nat) (a_ms : Nat → Nat) (a_mwas : Nat → Nat) (a_mtried : Nat → Nat) (a_msaved : Nat → Nat) (a_mpast : Nat → Nat) (a_mfar : Nat → Nat) (a_mdrift : Nat → Nat) (a_mline : Nat → Nat) (a_mtape : Nat → Nat) (a_mcommands : Nat → Nat) (sz : Nat) (m_changes : Int32) (m_thrown : Int32) (m_errorAt : Int32) (m_failedAt : Int32) (m_answer : Int32) (m_isSaved : Int32) (m_lined : Int32) (m_taped : Int32) (m_here : Int32) (m_commandMany : Int32) (m_s : Nat → Int32) (x1 : Int32) {post : Int32 → Int32 → Prop} (hw : wpX7_isOverdue x1 m_thrown m_s post) :
    Met l yX7_isOverdue wsX7_isOverdue rmX7_isOverdue (gPc g sz (List.flatten [kMo g a_mo a_ms a_mwas a_mtried a_msaved a_mpast a_mfar a_mdrift a_mline a_mtape a_mcommands m_changes m_thrown m_errorAt m_failedAt m_answer m_isSaved m_lined m_taped m_here m_commandMany, kAr g a_ms 130 m_s]) [.ref (a_mo 0), .int x1]) (gQi1 post (fun u1 => gB g (List.flatten [kMo g a_mo a_ms a_mwas a_mtried a_msaved a_mpast a_mfar a_mdrift a_mline a_mtape a_mcommands m_changes m_thrown m_errorAt m_failedAt m_answer m_isSaved m_lined m_taped m_here m_commandMany, kAr g a_ms 130 m_s]) sz (List.flatten [kMo g a_mo a_ms a_mwas a_mtried a_msaved a_mpast a_mfar a_mdrift a_mline a_mtape a_mcommands m_changes u1 m_errorAt m_failedAt m_answer m_isSaved m_lined m_taped m_here m_commandMany, kAr g a_ms 130 m_s])) (va_A (List.flatten [kMo g a_mo a_ms a_mwas a_mtried a_msaved a_mpast a_mfar a_mdrift a_mline a_mtape a_mcommands m_changes m_thrown m_errorAt m_failedAt m_answer m_isSaved m_lined m_taped m_here m_commandMany, kAr g a_ms 130 m_s]) sz)) 0 0 (va_A (List.flatten [kMo g a_mo a_ms a_mwas a_mtried a_msaved a_mpast a_mfar a_mdrift a_mline a_mtape a_mcommands m_changes m_thrown m_errorAt m_failedAt m_answer m_isSaved m_lined m_taped m_here m_commandMany, kAr g a_ms 130 m_s]) sz) := by
  refine gOf (cc := cX7_isOverdue) (maxL := 2) (ret := (some .boolean)) (by decide) rfl (Nat.le_of_ble_eq_true rfl) ?_
  intro p e s m below meth c ls Q A hQ hx hb hr hml hts hown hlocks hE hA0 hsz hP hD hA hS hl
  have hl : lv_has ls 2 [(0, .ref (a_mo 0)), (1, .int x1)] := hl
  have J14 : ∀ (z1_14 : Int32) (m_thrown_14 : Int32) (H : Heap) (locs : List Loc) (ls : Array Slot), wpX7_isOverdue_L14 x1 m_s post z1_14 m_thrown_14 → va_P g.1 vwCl (List.flatten [kMo g a_mo a_ms a_mwas a_mtried a_msaved a_mpast a_mfar a_mdrift a_mline a_mtape a_mcommands m_changes m_thrown_14 m_errorAt m_failedAt m_answer m_isSaved m_lined m_taped m_here m_commandMany, kAr g a_ms 130 m_s]) H → va_D A (List.flatten [kMo g a_mo a_ms a_mwas a_mtried a_msaved a_mpast a_mfar a_mdrift a_mline a_mtape a_mcommands m_changes m_thrown_14 m_errorAt m_failedAt m_answer m_isSaved m_lined m_taped m_here m_commandMany, kAr g a_ms 130 m_s]) → va_S A s.heap H locs → lv_has ls 2 [(0, .ref (a_mo 0)), (1, .int x1)] → W p l e rmX7_isOverdue s m (([.ref (a_mo 0), .int x1] : List Value).toArray) below meth c H locs 0 0 Q (F0 m 14 ls [.int z1_14, .ref (a_mo 0)]) := by
    intro z1_14 m_thrown_14 H locs ls hw hP hD hS hl
    refine lv_iconst (v := 1) hx hb dX7_isOverdue_14 (by decide) ?_
    refine gCi1 (gRunV (As := [.int z1_14, .int 1]) (rest := []) ⟨hx, hb, hml, hown, hts⟩ (ctX7_isThrown l g a_mo a_ms a_mwas a_mtried a_msaved a_mpast a_mfar a_mdrift a_mline a_mtape a_mcommands _ m_changes m_thrown_14 m_errorAt m_failedAt m_answer m_isSaved m_lined m_taped m_here m_commandMany z1_14 1 hw) (cwV 2 hts gX7_isOverdue_X7_isThrown rfl rfl rfl (by decide +kernel) ⟨Nat.le_of_ble_eq_true rfl, Nat.le_of_ble_eq_true rfl⟩) hE (gSub hP [0]) (gDSub hD [0] rfl) 0 11 rfl rfl rfl rfl rfl hl.1 rfl (lv_room (Nat.le_of_ble_eq_true rfl)) dX7_isOverdue_15 ⟨Nat.le_of_ble_eq_true rfl, Nat.le_of_ble_eq_true rfl⟩) hP hD hS hA [0] rfl (fun _ => rfl) rfl (fun r2 m_thrown_v2 H locs hw hP hD hS => ?_)
    have hP : va_P g.1 vwCl (List.flatten [kMo g a_mo a_ms a_mwas a_mtried a_msaved a_mpast a_mfar a_mdrift a_mline a_mtape a_mcommands m_changes m_thrown_v2 m_errorAt m_failedAt m_answer m_isSaved m_lined m_taped m_here m_commandMany, kAr g a_ms 130 m_s]) H := hP
    have hD : va_D A (List.flatten [kMo g a_mo a_ms a_mwas a_mtried a_msaved a_mpast a_mfar a_mdrift a_mline a_mtape a_mcommands m_changes m_thrown_v2 m_errorAt m_failedAt m_answer m_isSaved m_lined m_taped m_here m_commandMany, kAr g a_ms 130 m_s]) := hD
    refine lv_if_ne (tgt := 33) hx hb dX7_isOverdue_18 (by decide) (fun c_18 => ?_) (fun c_18 => ?_)
    · have hw := hw.1 c_18
      refine lv_iconst (v := 0) hx hb dX7_isOverdue_33 (by decide) ?_
      subst hQ
      exact W.zret (ty := .boolean) hx hb hr (by decide) (gRi1 (c1 := m_thrown_v2) (wf := _) hA0 hsz hw hP hD hS) hS.2.2 dX7_isOverdue_34
    · have hw := hw.2 c_18
      refine lv_aload_n hx hb dX7_isOverdue_21 rfl (lv_at hl 0 rfl) ?_
      refine lv_iload_n hx hb dX7_isOverdue_22 rfl (lv_at hl 1 rfl) ?_
      refine gCi0 (gRunV (As := [.int x1]) (rest := []) ⟨hx, hb, hml, hown, hts⟩ (ctX7_overdue l g a_mo a_ms a_mwas a_mtried a_msaved a_mpast a_mfar a_mdrift a_mline a_mtape a_mcommands _ m_changes m_thrown_v2 m_errorAt m_failedAt m_answer m_isSaved m_lined m_taped m_here m_commandMany m_s x1 hw) (cwV 1 hts gX7_isOverdue_X7_overdue rfl rfl rfl (by decide +kernel) ⟨Nat.le_of_ble_eq_true rfl, Nat.le_of_ble_eq_true rfl⟩) hE (gSub hP [0, 1]) (gDSub hD [0, 1] rfl) 0 11 rfl rfl rfl rfl rfl hl.1 rfl (lv_room (Nat.le_of_ble_eq_true rfl)) dX7_isOverdue_23 ⟨Nat.le_of_ble_eq_true rfl, Nat.le_of_ble_eq_true rfl⟩) hP hD hS hA [0, 1] rfl rfl rfl (fun r3 H locs hw hP hD hS => ?_)
      have hP : va_P g.1 vwCl (List.flatten [kMo g a_mo a_ms a_mwas a_mtried a_msaved a_mpast a_mfar a_mdrift a_mline a_mtape a_mcommands m_changes m_thrown_v2 m_errorAt m_failedAt m_answer m_isSaved m_lined m_taped m_here m_commandMany, kAr g a_ms 130 m_s]) H := hP
      have hD : va_D A (List.flatten [kMo g a_mo a_ms a_mwas a_mtried a_msaved a_mpast a_mfar a_mdrift a_mline a_mtape a_mcommands m_changes m_thrown_v2 m_errorAt m_failedAt m_answer m_isSaved m_lined m_taped m_here m_commandMany, kAr g a_ms 130 m_s]) := hD
      refine lv_if_eq (tgt := 33) hx hb dX7_isOverdue_26 (by decide) (fun c_26 => ?_) (fun c_26 => ?_)
      · have hw := hw.1 c_26
        refine lv_iconst (v := 0) hx hb dX7_isOverdue_33 (by decide) ?_
        subst hQ
        exact W.zret (ty := .boolean) hx hb hr (by decide) (gRi1 (c1 := m_thrown_v2) (wf := _) hA0 hsz hw hP hD hS) hS.2.2 dX7_isOverdue_34
      · have hw := hw.2 c_26
        refine lv_iconst (v := 1) hx hb dX7_isOverdue_29 (by decide) ?_
        refine lv_goto (tgt := 34) hx hb dX7_isOverdue_30 (by decide) ?_
        subst hQ
        exact W.zret (ty := .boolean) hx hb hr (by decide) (gRi1 (c1 := m_thrown_v2) (wf := _) hA0 hsz hw hP hD hS) hS.2.2 dX7_isOverdue_34
  refine lv_aload_n hx hb dX7_isOverdue_0 rfl (lv_at hl 0 rfl) ?_
  refine lv_aload_n hx hb dX7_isOverdue_1 rfl (lv_at hl 0 rfl) ?_
  refine lv_iload_n hx hb dX7_isOverdue_2 rfl (lv_at hl 1 rfl) ?_
  refine gCi0 (gRunV (As := [.int x1]) (rest := [.ref (a_mo 0)]) ⟨hx, hb, hml, hown, hts⟩ (ctX7_isStreet l g a_mo a_ms a_mwas a_mtried a_msaved a_mpast a_mfar a_mdrift a_mline a_mtape a_mcommands _ m_changes m_thrown m_errorAt m_failedAt m_answer m_isSaved m_lined m_taped m_here m_commandMany m_s x1 hw) (cwV 1 hts gX7_isOverdue_X7_isStreet rfl rfl rfl (by decide +kernel) ⟨Nat.le_of_ble_eq_true rfl, Nat.le_of_ble_eq_true rfl⟩) hE (gSub hP [0, 1]) (gDSub hD [0, 1] rfl) 0 11 rfl rfl rfl rfl rfl hl.1 rfl (lv_room (Nat.le_of_ble_eq_true rfl)) dX7_isOverdue_3 ⟨Nat.le_of_ble_eq_true rfl, Nat.le_of_ble_eq_true rfl⟩) hP hD hS hA [0, 1] rfl rfl rfl (fun r1 H locs hw hP hD hS => ?_)
  have hP : va_P g.1 vwCl (List.flatten [kMo g a_mo a_ms a_mwas a_mtried a_msaved a_mpast a_mfar a_mdrift a_mline a_mtape a_mcommands m_changes m_thrown m_errorAt m_failedAt m_answer m_isSaved m_lined m_taped m_here m_commandMany, kAr g a_ms 130 m_s]) H := hP
  have hD : va_D A (List.flatten [kMo g a_mo a_ms a_mwas a_mtried a_msaved a_mpast a_mfar a_mdrift a_mline a_mtape a_mcommands m_changes m_thrown m_errorAt m_failedAt m_answer m_isSaved m_lined m_taped m_here m_commandMany, kAr g a_ms 130 m_s]) := hD
  refine lv_if_ne (tgt := 13) hx hb dX7_isOverdue_6 (by decide) (fun c_6 => ?_) (fun c_6 => ?_)
  · have hw := hw.1 c_6
    refine lv_iconst (v := 0) hx hb dX7_isOverdue_13 (by decide) ?_
    exact J14 0 m_thrown _ _ _ hw hP hD hS (lv_sub hl [0, 1] rfl)
  · have hw := hw.2 c_6
    refine lv_iconst (v := 1) hx hb dX7_isOverdue_9 (by decide) ?_
    refine lv_goto (tgt := 14) hx hb dX7_isOverdue_10 (by decide) ?_
    exact J14 1 m_thrown _ _ _ hw hP hD hS (lv_sub hl [0, 1] rfl)
abbrev rmX7_isSalted : Room := { frames := 3, cells := 0, slots := 0, locals := 145 }
set_option maxRecDepth 20000 in
theorem inX7_isSalted_X7 : ∀ w ∈ wsX70, w ∈ wsX7_isSalted := by decide +kernel
set_option maxHeartbeats 4000000 in
set_option maxRecDepth 100000 in
theorem ctX7_isSalted (l : Launch) (g : GG) (a_mo : Nat → Nat) (a_ms : Nat → Nat) (a_mwas : Nat → Nat) (a_mtried : Nat → Nat) (a_msaved : Nat → Nat) (a_mpast : Nat → Nat) (a_mfar : Nat → Nat) (a_mdrift : Nat → Nat) (a_mline : Nat → Nat) (a_mtape : Nat → Nat) (a_mcommands : Nat → Nat) (sz : Nat) (m_changes : Int32) (m_thrown : Int32) (m_errorAt : Int32) (m_failedAt : Int32) (m_answer : Int32) (m_isSaved : Int32) (m_lined : Int32) (m_taped : Int32) (m_here : Int32) (m_commandMany : Int32) (m_s : Nat → Int32) (x1 : Int32) {post : Int32 → Int32 → Prop} (hw : wpX7_isSalted x1 m_thrown m_s post) :
    Met l yX7_isSalted wsX7_isSalted rmX7_isSalted (gPc g sz (List.flatten [kMo g a_mo a_ms a_mwas a_mtried a_msaved a_mpast a_mfar a_mdrift a_mline a_mtape a_mcommands m_changes m_thrown m_errorAt m_failedAt m_answer m_isSaved m_lined m_taped m_here m_commandMany, kAr g a_ms 130 m_s]) [.ref (a_mo 0), .int x1]) (gQi1 post (fun u1 => gB g (List.flatten [kMo g a_mo a_ms a_mwas a_mtried a_msaved a_mpast a_mfar a_mdrift a_mline a_mtape a_mcommands m_changes m_thrown m_errorAt m_failedAt m_answer m_isSaved m_lined m_taped m_here m_commandMany, kAr g a_ms 130 m_s]) sz (List.flatten [kMo g a_mo a_ms a_mwas a_mtried a_msaved a_mpast a_mfar a_mdrift a_mline a_mtape a_mcommands m_changes u1 m_errorAt m_failedAt m_answer m_isSaved m_lined m_taped m_here m_commandMany, kAr g a_ms 130 m_s])) (va_A (List.flatten [kMo g a_mo a_ms a_mwas a_mtried a_msaved a_mpast a_mfar a_mdrift a_mline a_mtape a_mcommands m_changes m_thrown m_errorAt m_failedAt m_answer m_isSaved m_lined m_taped m_here m_commandMany, kAr g a_ms 130 m_s]) sz)) 0 0 (va_A (List.flatten [kMo g a_mo a_ms a_mwas a_mtried a_msaved a_mpast a_mfar a_mdrift a_mline a_mtape a_mcommands m_changes m_thrown m_errorAt m_failedAt m_answer m_isSaved m_lined m_taped m_here m_commandMany, kAr g a_ms 130 m_s]) sz) := by
  refine gOf (cc := cX7_isSalted) (maxL := 2) (ret := (some .boolean)) (by decide) rfl (Nat.le_of_ble_eq_true rfl) ?_
  intro p e s m below meth c ls Q A hQ hx hb hr hml hts hown hlocks hE hA0 hsz hP hD hA hS hl
  have hl : lv_has ls 2 [(0, .ref (a_mo 0)), (1, .int x1)] := hl
  have J14 : ∀ (z1_14 : Int32) (m_thrown_14 : Int32) (H : Heap) (locs : List Loc) (ls : Array Slot), wpX7_isSalted_L14 x1 m_s post z1_14 m_thrown_14 → va_P g.1 vwCl (List.flatten [kMo g a_mo a_ms a_mwas a_mtried a_msaved a_mpast a_mfar a_mdrift a_mline a_mtape a_mcommands m_changes m_thrown_14 m_errorAt m_failedAt m_answer m_isSaved m_lined m_taped m_here m_commandMany, kAr g a_ms 130 m_s]) H → va_D A (List.flatten [kMo g a_mo a_ms a_mwas a_mtried a_msaved a_mpast a_mfar a_mdrift a_mline a_mtape a_mcommands m_changes m_thrown_14 m_errorAt m_failedAt m_answer m_isSaved m_lined m_taped m_here m_commandMany, kAr g a_ms 130 m_s]) → va_S A s.heap H locs → lv_has ls 2 [(0, .ref (a_mo 0)), (1, .int x1)] → W p l e rmX7_isSalted s m (([.ref (a_mo 0), .int x1] : List Value).toArray) below meth c H locs 0 0 Q (F0 m 14 ls [.int z1_14, .ref (a_mo 0)]) := by
    intro z1_14 m_thrown_14 H locs ls hw hP hD hS hl
    refine lv_iconst (v := 1) hx hb dX7_isSalted_14 (by decide) ?_
    refine gCi1 (gRunV (As := [.int z1_14, .int 1]) (rest := []) ⟨hx, hb, hml, hown, hts⟩ (ctX7_isThrown l g a_mo a_ms a_mwas a_mtried a_msaved a_mpast a_mfar a_mdrift a_mline a_mtape a_mcommands _ m_changes m_thrown_14 m_errorAt m_failedAt m_answer m_isSaved m_lined m_taped m_here m_commandMany z1_14 1 hw) (cwV 2 hts gX7_isSalted_X7_isThrown rfl rfl rfl (by decide +kernel) ⟨Nat.le_of_ble_eq_true rfl, Nat.le_of_ble_eq_true rfl⟩) hE (gSub hP [0]) (gDSub hD [0] rfl) 0 11 rfl rfl rfl rfl rfl hl.1 rfl (lv_room (Nat.le_of_ble_eq_true rfl)) dX7_isSalted_15 ⟨Nat.le_of_ble_eq_true rfl, Nat.le_of_ble_eq_true rfl⟩) hP hD hS hA [0] rfl (fun _ => rfl) rfl (fun r2 m_thrown_v2 H locs hw hP hD hS => ?_)
    have hP : va_P g.1 vwCl (List.flatten [kMo g a_mo a_ms a_mwas a_mtried a_msaved a_mpast a_mfar a_mdrift a_mline a_mtape a_mcommands m_changes m_thrown_v2 m_errorAt m_failedAt m_answer m_isSaved m_lined m_taped m_here m_commandMany, kAr g a_ms 130 m_s]) H := hP
    have hD : va_D A (List.flatten [kMo g a_mo a_ms a_mwas a_mtried a_msaved a_mpast a_mfar a_mdrift a_mline a_mtape a_mcommands m_changes m_thrown_v2 m_errorAt m_failedAt m_answer m_isSaved m_lined m_taped m_here m_commandMany, kAr g a_ms 130 m_s]) := hD
    refine lv_if_ne (tgt := 33) hx hb dX7_isSalted_18 (by decide) (fun c_18 => ?_) (fun c_18 => ?_)
    · have hw := hw.1 c_18
      refine lv_iconst (v := 0) hx hb dX7_isSalted_33 (by decide) ?_
      subst hQ
      exact W.zret (ty := .boolean) hx hb hr (by decide) (gRi1 (c1 := m_thrown_v2) (wf := _) hA0 hsz hw hP hD hS) hS.2.2 dX7_isSalted_34
    · have hw := hw.2 c_18
      refine lv_aload_n hx hb dX7_isSalted_21 rfl (lv_at hl 0 rfl) ?_
      refine lv_iload_n hx hb dX7_isSalted_22 rfl (lv_at hl 1 rfl) ?_
      refine gCi0 (gRunV (As := [.int x1]) (rest := []) ⟨hx, hb, hml, hown, hts⟩ (ctX7_salted l g a_mo a_ms a_mwas a_mtried a_msaved a_mpast a_mfar a_mdrift a_mline a_mtape a_mcommands _ m_changes m_thrown_v2 m_errorAt m_failedAt m_answer m_isSaved m_lined m_taped m_here m_commandMany m_s x1 hw) (cwV 1 hts gX7_isSalted_X7_salted rfl rfl rfl (by decide +kernel) ⟨Nat.le_of_ble_eq_true rfl, Nat.le_of_ble_eq_true rfl⟩) hE (gSub hP [0, 1]) (gDSub hD [0, 1] rfl) 0 11 rfl rfl rfl rfl rfl hl.1 rfl (lv_room (Nat.le_of_ble_eq_true rfl)) dX7_isSalted_23 ⟨Nat.le_of_ble_eq_true rfl, Nat.le_of_ble_eq_true rfl⟩) hP hD hS hA [0, 1] rfl rfl rfl (fun r3 H locs hw hP hD hS => ?_)
      have hP : va_P g.1 vwCl (List.flatten [kMo g a_mo a_ms a_mwas a_mtried a_msaved a_mpast a_mfar a_mdrift a_mline a_mtape a_mcommands m_changes m_thrown_v2 m_errorAt m_failedAt m_answer m_isSaved m_lined m_taped m_here m_commandMany, kAr g a_ms 130 m_s]) H := hP
      have hD : va_D A (List.flatten [kMo g a_mo a_ms a_mwas a_mtried a_msaved a_mpast a_mfar a_mdrift a_mline a_mtape a_mcommands m_changes m_thrown_v2 m_errorAt m_failedAt m_answer m_isSaved m_lined m_taped m_here m_commandMany, kAr g a_ms 130 m_s]) := hD
      refine lv_if_eq (tgt := 33) hx hb dX7_isSalted_26 (by decide) (fun c_26 => ?_) (fun c_26 => ?_)
      · have hw := hw.1 c_26
        refine lv_iconst (v := 0) hx hb dX7_isSalted_33 (by decide) ?_
        subst hQ
        exact W.zret (ty := .boolean) hx hb hr (by decide) (gRi1 (c1 := m_thrown_v2) (wf := _) hA0 hsz hw hP hD hS) hS.2.2 dX7_isSalted_34
      · have hw := hw.2 c_26
        refine lv_iconst (v := 1) hx hb dX7_isSalted_29 (by decide) ?_
        refine lv_goto (tgt := 34) hx hb dX7_isSalted_30 (by decide) ?_
        subst hQ
        exact W.zret (ty := .boolean) hx hb hr (by decide) (gRi1 (c1 := m_thrown_v2) (wf := _) hA0 hsz hw hP hD hS) hS.2.2 dX7_isSalted_34
  refine lv_aload_n hx hb dX7_isSalted_0 rfl (lv_at hl 0 rfl) ?_
  refine lv_aload_n hx hb dX7_isSalted_1 rfl (lv_at hl 0 rfl) ?_
  refine lv_iload_n hx hb dX7_isSalted_2 rfl (lv_at hl 1 rfl) ?_
  refine gCi0 (gRunV (As := [.int x1]) (rest := [.ref (a_mo 0)]) ⟨hx, hb, hml, hown, hts⟩ (ctX7_isStreet l g a_mo a_ms a_mwas a_mtried a_msaved a_mpast a_mfar a_mdrift a_mline a_mtape a_mcommands _ m_changes m_thrown m_errorAt m_failedAt m_answer m_isSaved m_lined m_taped m_here m_commandMany m_s x1 hw) (cwV 1 hts gX7_isSalted_X7_isStreet rfl rfl rfl (by decide +kernel) ⟨Nat.le_of_ble_eq_true rfl, Nat.le_of_ble_eq_true rfl⟩) hE (gSub hP [0, 1]) (gDSub hD [0, 1] rfl) 0 11 rfl rfl rfl rfl rfl hl.1 rfl (lv_room (Nat.le_of_ble_eq_true rfl)) dX7_isSalted_3 ⟨Nat.le_of_ble_eq_true rfl, Nat.le_of_ble_eq_true rfl⟩) hP hD hS hA [0, 1] rfl rfl rfl (fun r1 H locs hw hP hD hS => ?_)
  have hP : va_P g.1 vwCl (List.flatten [kMo g a_mo a_ms a_mwas a_mtried a_msaved a_mpast a_mfar a_mdrift a_mline a_mtape a_mcommands m_changes m_thrown m_errorAt m_failedAt m_answer m_isSaved m_lined m_taped m_here m_commandMany, kAr g a_ms 130 m_s]) H := hP
  have hD : va_D A (List.flatten [kMo g a_mo a_ms a_mwas a_mtried a_msaved a_mpast a_mfar a_mdrift a_mline a_mtape a_mcommands m_changes m_thrown m_errorAt m_failedAt m_answer m_isSaved m_lined m_taped m_here m_commandMany, kAr g a_ms 130 m_s]) := hD
  refine lv_if_ne (tgt := 13) hx hb dX7_isSalted_6 (by decide) (fun c_6 => ?_) (fun c_6 => ?_)
  · have hw := hw.1 c_6
    refine lv_iconst (v := 0) hx hb dX7_isSalted_13 (by decide) ?_
    exact J14 0 m_thrown _ _ _ hw hP hD hS (lv_sub hl [0, 1] rfl)
  · have hw := hw.2 c_6
    refine lv_iconst (v := 1) hx hb dX7_isSalted_9 (by decide) ?_
    refine lv_goto (tgt := 14) hx hb dX7_isSalted_10 (by decide) ?_
    exact J14 1 m_thrown _ _ _ hw hP hD hS (lv_sub hl [0, 1] rfl)
abbrev rmX7_saltMinutes : Room := { frames := 3, cells := 0, slots := 0, locals := 145 }
set_option maxRecDepth 20000 in
theorem inX7_saltMinutes_X7 : ∀ w ∈ wsX70, w ∈ wsX7_saltMinutes := by decide +kernel
set_option maxHeartbeats 4000000 in
set_option maxRecDepth 100000 in
theorem ctX7_saltMinutes (l : Launch) (g : GG) (a_mo : Nat → Nat) (a_ms : Nat → Nat) (a_mwas : Nat → Nat) (a_mtried : Nat → Nat) (a_msaved : Nat → Nat) (a_mpast : Nat → Nat) (a_mfar : Nat → Nat) (a_mdrift : Nat → Nat) (a_mline : Nat → Nat) (a_mtape : Nat → Nat) (a_mcommands : Nat → Nat) (sz : Nat) (m_changes : Int32) (m_thrown : Int32) (m_errorAt : Int32) (m_failedAt : Int32) (m_answer : Int32) (m_isSaved : Int32) (m_lined : Int32) (m_taped : Int32) (m_here : Int32) (m_commandMany : Int32) (m_s : Nat → Int32) (x1 : Int32) {post : Int32 → Int32 → Prop} (hw : wpX7_saltMinutes x1 m_thrown m_s post) :
    Met l yX7_saltMinutes wsX7_saltMinutes rmX7_saltMinutes (gPc g sz (List.flatten [kMo g a_mo a_ms a_mwas a_mtried a_msaved a_mpast a_mfar a_mdrift a_mline a_mtape a_mcommands m_changes m_thrown m_errorAt m_failedAt m_answer m_isSaved m_lined m_taped m_here m_commandMany, kAr g a_ms 130 m_s]) [.ref (a_mo 0), .int x1]) (gQi1 post (fun u1 => gB g (List.flatten [kMo g a_mo a_ms a_mwas a_mtried a_msaved a_mpast a_mfar a_mdrift a_mline a_mtape a_mcommands m_changes m_thrown m_errorAt m_failedAt m_answer m_isSaved m_lined m_taped m_here m_commandMany, kAr g a_ms 130 m_s]) sz (List.flatten [kMo g a_mo a_ms a_mwas a_mtried a_msaved a_mpast a_mfar a_mdrift a_mline a_mtape a_mcommands m_changes u1 m_errorAt m_failedAt m_answer m_isSaved m_lined m_taped m_here m_commandMany, kAr g a_ms 130 m_s])) (va_A (List.flatten [kMo g a_mo a_ms a_mwas a_mtried a_msaved a_mpast a_mfar a_mdrift a_mline a_mtape a_mcommands m_changes m_thrown m_errorAt m_failedAt m_answer m_isSaved m_lined m_taped m_here m_commandMany, kAr g a_ms 130 m_s]) sz)) 0 0 (va_A (List.flatten [kMo g a_mo a_ms a_mwas a_mtried a_msaved a_mpast a_mfar a_mdrift a_mline a_mtape a_mcommands m_changes m_thrown m_errorAt m_failedAt m_answer m_isSaved m_lined m_taped m_here m_commandMany, kAr g a_ms 130 m_s]) sz) := by
  refine gOf (cc := cX7_saltMinutes) (maxL := 2) (ret := (some .int)) (by decide) rfl (Nat.le_of_ble_eq_true rfl) ?_
  intro p e s m below meth c ls Q A hQ hx hb hr hml hts hown hlocks hE hA0 hsz hP hD hA hS hl
  have hl : lv_has ls 2 [(0, .ref (a_mo 0)), (1, .int x1)] := hl
  have J35 : ∀ (z1_35 : Int32) (m_thrown_35 : Int32) (H : Heap) (locs : List Loc) (ls : Array Slot), wpX7_saltMinutes_L35 x1 m_s post z1_35 m_thrown_35 → va_P g.1 vwCl (List.flatten [kMo g a_mo a_ms a_mwas a_mtried a_msaved a_mpast a_mfar a_mdrift a_mline a_mtape a_mcommands m_changes m_thrown_35 m_errorAt m_failedAt m_answer m_isSaved m_lined m_taped m_here m_commandMany, kAr g a_ms 130 m_s]) H → va_D A (List.flatten [kMo g a_mo a_ms a_mwas a_mtried a_msaved a_mpast a_mfar a_mdrift a_mline a_mtape a_mcommands m_changes m_thrown_35 m_errorAt m_failedAt m_answer m_isSaved m_lined m_taped m_here m_commandMany, kAr g a_ms 130 m_s]) → va_S A s.heap H locs → lv_has ls 2 [(0, .ref (a_mo 0)), (1, .int x1)] → W p l e rmX7_saltMinutes s m (([.ref (a_mo 0), .int x1] : List Value).toArray) below meth c H locs 0 0 Q (F0 m 35 ls [.int z1_35, .ref (a_mo 0)]) := by
    intro z1_35 m_thrown_35 H locs ls hw hP hD hS hl
    refine lv_iconst (v := 2) hx hb dX7_saltMinutes_35 (by decide) ?_
    refine gCi1 (gRunV (As := [.int z1_35, .int 2]) (rest := []) ⟨hx, hb, hml, hown, hts⟩ (ctX7_isThrown l g a_mo a_ms a_mwas a_mtried a_msaved a_mpast a_mfar a_mdrift a_mline a_mtape a_mcommands _ m_changes m_thrown_35 m_errorAt m_failedAt m_answer m_isSaved m_lined m_taped m_here m_commandMany z1_35 2 hw) (cwV 2 hts gX7_saltMinutes_X7_isThrown rfl rfl rfl (by decide +kernel) ⟨Nat.le_of_ble_eq_true rfl, Nat.le_of_ble_eq_true rfl⟩) hE (gSub hP [0]) (gDSub hD [0] rfl) 0 11 rfl rfl rfl rfl rfl hl.1 rfl (lv_room (Nat.le_of_ble_eq_true rfl)) dX7_saltMinutes_36 ⟨Nat.le_of_ble_eq_true rfl, Nat.le_of_ble_eq_true rfl⟩) hP hD hS hA [0] rfl (fun _ => rfl) rfl (fun r4 m_thrown_v4 H locs hw hP hD hS => ?_)
    have hP : va_P g.1 vwCl (List.flatten [kMo g a_mo a_ms a_mwas a_mtried a_msaved a_mpast a_mfar a_mdrift a_mline a_mtape a_mcommands m_changes m_thrown_v4 m_errorAt m_failedAt m_answer m_isSaved m_lined m_taped m_here m_commandMany, kAr g a_ms 130 m_s]) H := hP
    have hD : va_D A (List.flatten [kMo g a_mo a_ms a_mwas a_mtried a_msaved a_mpast a_mfar a_mdrift a_mline a_mtape a_mcommands m_changes m_thrown_v4 m_errorAt m_failedAt m_answer m_isSaved m_lined m_taped m_here m_commandMany, kAr g a_ms 130 m_s]) := hD
    refine lv_if_eq (tgt := 46) hx hb dX7_saltMinutes_39 (by decide) (fun c_39 => ?_) (fun c_39 => ?_)
    · have hw := hw.1 c_39
      refine lv_aload_n hx hb dX7_saltMinutes_46 rfl (lv_at hl 0 rfl) ?_
      refine lv_iload_n hx hb dX7_saltMinutes_47 rfl (lv_at hl 1 rfl) ?_
      refine lv_iconst (v := 5) hx hb dX7_saltMinutes_48 (by decide) ?_
      refine gCi0 (gRunV (As := [.int x1, .int 5]) (rest := []) ⟨hx, hb, hml, hown, hts⟩ (ctX7_of l g a_mo a_ms a_mwas a_mtried a_msaved a_mpast a_mfar a_mdrift a_mline a_mtape a_mcommands _ m_changes m_thrown_v4 m_errorAt m_failedAt m_answer m_isSaved m_lined m_taped m_here m_commandMany m_s x1 5 hw) (cwV 2 hts gX7_saltMinutes_X7_of rfl rfl rfl (by decide +kernel) ⟨Nat.le_of_ble_eq_true rfl, Nat.le_of_ble_eq_true rfl⟩) hE (gSub hP [0, 1]) (gDSub hD [0, 1] rfl) 0 11 rfl rfl rfl rfl rfl hl.1 rfl (lv_room (Nat.le_of_ble_eq_true rfl)) dX7_saltMinutes_49 ⟨Nat.le_of_ble_eq_true rfl, Nat.le_of_ble_eq_true rfl⟩) hP hD hS hA [0, 1] rfl rfl rfl (fun r5 H locs hw hP hD hS => ?_)
      have hP : va_P g.1 vwCl (List.flatten [kMo g a_mo a_ms a_mwas a_mtried a_msaved a_mpast a_mfar a_mdrift a_mline a_mtape a_mcommands m_changes m_thrown_v4 m_errorAt m_failedAt m_answer m_isSaved m_lined m_taped m_here m_commandMany, kAr g a_ms 130 m_s]) H := hP
      have hD : va_D A (List.flatten [kMo g a_mo a_ms a_mwas a_mtried a_msaved a_mpast a_mfar a_mdrift a_mline a_mtape a_mcommands m_changes m_thrown_v4 m_errorAt m_failedAt m_answer m_isSaved m_lined m_taped m_here m_commandMany, kAr g a_ms 130 m_s]) := hD
      refine lv_aload_n hx hb dX7_saltMinutes_52 rfl (lv_at hl 0 rfl) ?_
      refine va_get (D := g.1) (ci := 11) (v := .ref (a_ms 0)) (C := RX7) (T := TX7) (N := 20) hx hb hts inX7_saltMinutes_X7 hown hE.1 hP 0 rfl rfl 0 (by decide) (gW hts 1 (.fieldLink RX7 9 "SnowDispatcherModel" "s" "[I") rfl) (fun _ h9 => h9) rfl dX7_saltMinutes_53 ?_
      refine lv_iconst (v := 0) hx hb dX7_saltMinutes_56 (by decide) ?_
      have h6 := hw.1
      have hw := hw.2
      refine va_iald hx hb hE.1 hP 1 0 rfl rfl h6 dX7_saltMinutes_57 ?_
      refine lv_isub hx hb dX7_saltMinutes_58 ?_
      subst hQ
      exact W.iret hx hb hr (gRi1 (c1 := m_thrown_v4) (wf := _) hA0 hsz hw hP hD hS) hS.2.2 dX7_saltMinutes_59
    · have hw := hw.2 c_39
      refine lv_iconst (v := 0) hx hb dX7_saltMinutes_42 (by decide) ?_
      refine lv_goto (tgt := 59) hx hb dX7_saltMinutes_43 (by decide) ?_
      subst hQ
      exact W.iret hx hb hr (gRi1 (c1 := m_thrown_v4) (wf := _) hA0 hsz hw hP hD hS) hS.2.2 dX7_saltMinutes_59
  have J14 : ∀ (z1_14 : Int32) (m_thrown_14 : Int32) (H : Heap) (locs : List Loc) (ls : Array Slot), wpX7_saltMinutes_L14 x1 m_s post z1_14 m_thrown_14 → va_P g.1 vwCl (List.flatten [kMo g a_mo a_ms a_mwas a_mtried a_msaved a_mpast a_mfar a_mdrift a_mline a_mtape a_mcommands m_changes m_thrown_14 m_errorAt m_failedAt m_answer m_isSaved m_lined m_taped m_here m_commandMany, kAr g a_ms 130 m_s]) H → va_D A (List.flatten [kMo g a_mo a_ms a_mwas a_mtried a_msaved a_mpast a_mfar a_mdrift a_mline a_mtape a_mcommands m_changes m_thrown_14 m_errorAt m_failedAt m_answer m_isSaved m_lined m_taped m_here m_commandMany, kAr g a_ms 130 m_s]) → va_S A s.heap H locs → lv_has ls 2 [(0, .ref (a_mo 0)), (1, .int x1)] → W p l e rmX7_saltMinutes s m (([.ref (a_mo 0), .int x1] : List Value).toArray) below meth c H locs 0 0 Q (F0 m 14 ls [.int z1_14, .ref (a_mo 0)]) := by
    intro z1_14 m_thrown_14 H locs ls hw hP hD hS hl
    refine lv_iconst (v := 1) hx hb dX7_saltMinutes_14 (by decide) ?_
    refine gCi1 (gRunV (As := [.int z1_14, .int 1]) (rest := []) ⟨hx, hb, hml, hown, hts⟩ (ctX7_isThrown l g a_mo a_ms a_mwas a_mtried a_msaved a_mpast a_mfar a_mdrift a_mline a_mtape a_mcommands _ m_changes m_thrown_14 m_errorAt m_failedAt m_answer m_isSaved m_lined m_taped m_here m_commandMany z1_14 1 hw) (cwV 2 hts gX7_saltMinutes_X7_isThrown rfl rfl rfl (by decide +kernel) ⟨Nat.le_of_ble_eq_true rfl, Nat.le_of_ble_eq_true rfl⟩) hE (gSub hP [0]) (gDSub hD [0] rfl) 0 11 rfl rfl rfl rfl rfl hl.1 rfl (lv_room (Nat.le_of_ble_eq_true rfl)) dX7_saltMinutes_15 ⟨Nat.le_of_ble_eq_true rfl, Nat.le_of_ble_eq_true rfl⟩) hP hD hS hA [0] rfl (fun _ => rfl) rfl (fun r2 m_thrown_v2 H locs hw hP hD hS => ?_)
    have hP : va_P g.1 vwCl (List.flatten [kMo g a_mo a_ms a_mwas a_mtried a_msaved a_mpast a_mfar a_mdrift a_mline a_mtape a_mcommands m_changes m_thrown_v2 m_errorAt m_failedAt m_answer m_isSaved m_lined m_taped m_here m_commandMany, kAr g a_ms 130 m_s]) H := hP
    have hD : va_D A (List.flatten [kMo g a_mo a_ms a_mwas a_mtried a_msaved a_mpast a_mfar a_mdrift a_mline a_mtape a_mcommands m_changes m_thrown_v2 m_errorAt m_failedAt m_answer m_isSaved m_lined m_taped m_here m_commandMany, kAr g a_ms 130 m_s]) := hD
    refine lv_if_ne (tgt := 42) hx hb dX7_saltMinutes_18 (by decide) (fun c_18 => ?_) (fun c_18 => ?_)
    · have hw := hw.1 c_18
      refine lv_iconst (v := 0) hx hb dX7_saltMinutes_42 (by decide) ?_
      refine lv_goto (tgt := 59) hx hb dX7_saltMinutes_43 (by decide) ?_
      subst hQ
      exact W.iret hx hb hr (gRi1 (c1 := m_thrown_v2) (wf := _) hA0 hsz hw hP hD hS) hS.2.2 dX7_saltMinutes_59
    · have hw := hw.2 c_18
      refine lv_aload_n hx hb dX7_saltMinutes_21 rfl (lv_at hl 0 rfl) ?_
      refine lv_aload_n hx hb dX7_saltMinutes_22 rfl (lv_at hl 0 rfl) ?_
      refine lv_iload_n hx hb dX7_saltMinutes_23 rfl (lv_at hl 1 rfl) ?_
      refine gCi0 (gRunV (As := [.int x1]) (rest := [.ref (a_mo 0)]) ⟨hx, hb, hml, hown, hts⟩ (ctX7_salted l g a_mo a_ms a_mwas a_mtried a_msaved a_mpast a_mfar a_mdrift a_mline a_mtape a_mcommands _ m_changes m_thrown_v2 m_errorAt m_failedAt m_answer m_isSaved m_lined m_taped m_here m_commandMany m_s x1 hw) (cwV 1 hts gX7_saltMinutes_X7_salted rfl rfl rfl (by decide +kernel) ⟨Nat.le_of_ble_eq_true rfl, Nat.le_of_ble_eq_true rfl⟩) hE (gSub hP [0, 1]) (gDSub hD [0, 1] rfl) 0 11 rfl rfl rfl rfl rfl hl.1 rfl (lv_room (Nat.le_of_ble_eq_true rfl)) dX7_saltMinutes_24 ⟨Nat.le_of_ble_eq_true rfl, Nat.le_of_ble_eq_true rfl⟩) hP hD hS hA [0, 1] rfl rfl rfl (fun r3 H locs hw hP hD hS => ?_)
      have hP : va_P g.1 vwCl (List.flatten [kMo g a_mo a_ms a_mwas a_mtried a_msaved a_mpast a_mfar a_mdrift a_mline a_mtape a_mcommands m_changes m_thrown_v2 m_errorAt m_failedAt m_answer m_isSaved m_lined m_taped m_here m_commandMany, kAr g a_ms 130 m_s]) H := hP
      have hD : va_D A (List.flatten [kMo g a_mo a_ms a_mwas a_mtried a_msaved a_mpast a_mfar a_mdrift a_mline a_mtape a_mcommands m_changes m_thrown_v2 m_errorAt m_failedAt m_answer m_isSaved m_lined m_taped m_here m_commandMany, kAr g a_ms 130 m_s]) := hD
      refine lv_if_ne (tgt := 34) hx hb dX7_saltMinutes_27 (by decide) (fun c_27 => ?_) (fun c_27 => ?_)
      · have hw := hw.1 c_27
        refine lv_iconst (v := 0) hx hb dX7_saltMinutes_34 (by decide) ?_
        exact J35 0 m_thrown_v2 _ _ _ hw hP hD hS (lv_sub hl [0, 1] rfl)
      · have hw := hw.2 c_27
        refine lv_iconst (v := 1) hx hb dX7_saltMinutes_30 (by decide) ?_
        refine lv_goto (tgt := 35) hx hb dX7_saltMinutes_31 (by decide) ?_
        exact J35 1 m_thrown_v2 _ _ _ hw hP hD hS (lv_sub hl [0, 1] rfl)
  refine lv_aload_n hx hb dX7_saltMinutes_0 rfl (lv_at hl 0 rfl) ?_
  refine lv_aload_n hx hb dX7_saltMinutes_1 rfl (lv_at hl 0 rfl) ?_
  refine lv_iload_n hx hb dX7_saltMinutes_2 rfl (lv_at hl 1 rfl) ?_
  refine gCi0 (gRunV (As := [.int x1]) (rest := [.ref (a_mo 0)]) ⟨hx, hb, hml, hown, hts⟩ (ctX7_isStreet l g a_mo a_ms a_mwas a_mtried a_msaved a_mpast a_mfar a_mdrift a_mline a_mtape a_mcommands _ m_changes m_thrown m_errorAt m_failedAt m_answer m_isSaved m_lined m_taped m_here m_commandMany m_s x1 hw) (cwV 1 hts gX7_saltMinutes_X7_isStreet rfl rfl rfl (by decide +kernel) ⟨Nat.le_of_ble_eq_true rfl, Nat.le_of_ble_eq_true rfl⟩) hE (gSub hP [0, 1]) (gDSub hD [0, 1] rfl) 0 11 rfl rfl rfl rfl rfl hl.1 rfl (lv_room (Nat.le_of_ble_eq_true rfl)) dX7_saltMinutes_3 ⟨Nat.le_of_ble_eq_true rfl, Nat.le_of_ble_eq_true rfl⟩) hP hD hS hA [0, 1] rfl rfl rfl (fun r1 H locs hw hP hD hS => ?_)
  have hP : va_P g.1 vwCl (List.flatten [kMo g a_mo a_ms a_mwas a_mtried a_msaved a_mpast a_mfar a_mdrift a_mline a_mtape a_mcommands m_changes m_thrown m_errorAt m_failedAt m_answer m_isSaved m_lined m_taped m_here m_commandMany, kAr g a_ms 130 m_s]) H := hP
  have hD : va_D A (List.flatten [kMo g a_mo a_ms a_mwas a_mtried a_msaved a_mpast a_mfar a_mdrift a_mline a_mtape a_mcommands m_changes m_thrown m_errorAt m_failedAt m_answer m_isSaved m_lined m_taped m_here m_commandMany, kAr g a_ms 130 m_s]) := hD
  refine lv_if_ne (tgt := 13) hx hb dX7_saltMinutes_6 (by decide) (fun c_6 => ?_) (fun c_6 => ?_)
  · have hw := hw.1 c_6
    refine lv_iconst (v := 0) hx hb dX7_saltMinutes_13 (by decide) ?_
    exact J14 0 m_thrown _ _ _ hw hP hD hS (lv_sub hl [0, 1] rfl)
  · have hw := hw.2 c_6
    refine lv_iconst (v := 1) hx hb dX7_saltMinutes_9 (by decide) ?_
    refine lv_goto (tgt := 14) hx hb dX7_saltMinutes_10 (by decide) ?_
    exact J14 1 m_thrown _ _ _ hw hP hD hS (lv_sub hl [0, 1] rfl)
abbrev rmX7_complaints : Room := { frames := 4, cells := 0, slots := 0, locals := 168 }
set_option maxRecDepth 20000 in
theorem inX7_complaints_X7 : ∀ w ∈ wsX70, w ∈ wsX7_complaints := by decide +kernel
set_option maxHeartbeats 4000000 in
set_option maxRecDepth 100000 in
theorem ctX7_complaints (l : Launch) (g : GG) (a_mo : Nat → Nat) (a_ms : Nat → Nat) (a_mwas : Nat → Nat) (a_mtried : Nat → Nat) (a_msaved : Nat → Nat) (a_mpast : Nat → Nat) (a_mfar : Nat → Nat) (a_mdrift : Nat → Nat) (a_mline : Nat → Nat) (a_mtape : Nat → Nat) (a_mcommands : Nat → Nat) (sz : Nat) (m_changes : Int32) (m_thrown : Int32) (m_errorAt : Int32) (m_failedAt : Int32) (m_answer : Int32) (m_isSaved : Int32) (m_lined : Int32) (m_taped : Int32) (m_here : Int32) (m_commandMany : Int32) (m_s : Nat → Int32) (x1 : Int32) {post : Int32 → Int32 → Prop} (hw : wpX7_complaints x1 m_thrown m_s post) :
    Met l yX7_complaints wsX7_complaints rmX7_complaints (gPc g sz (List.flatten [kMo g a_mo a_ms a_mwas a_mtried a_msaved a_mpast a_mfar a_mdrift a_mline a_mtape a_mcommands m_changes m_thrown m_errorAt m_failedAt m_answer m_isSaved m_lined m_taped m_here m_commandMany, kAr g a_ms 130 m_s]) [.ref (a_mo 0), .int x1]) (gQi1 post (fun u1 => gB g (List.flatten [kMo g a_mo a_ms a_mwas a_mtried a_msaved a_mpast a_mfar a_mdrift a_mline a_mtape a_mcommands m_changes m_thrown m_errorAt m_failedAt m_answer m_isSaved m_lined m_taped m_here m_commandMany, kAr g a_ms 130 m_s]) sz (List.flatten [kMo g a_mo a_ms a_mwas a_mtried a_msaved a_mpast a_mfar a_mdrift a_mline a_mtape a_mcommands m_changes u1 m_errorAt m_failedAt m_answer m_isSaved m_lined m_taped m_here m_commandMany, kAr g a_ms 130 m_s])) (va_A (List.flatten [kMo g a_mo a_ms a_mwas a_mtried a_msaved a_mpast a_mfar a_mdrift a_mline a_mtape a_mcommands m_changes m_thrown m_errorAt m_failedAt m_answer m_isSaved m_lined m_taped m_here m_commandMany, kAr g a_ms 130 m_s]) sz)) 0 0 (va_A (List.flatten [kMo g a_mo a_ms a_mwas a_mtried a_msaved a_mpast a_mfar a_mdrift a_mline a_mtape a_mcommands m_changes m_thrown m_errorAt m_failedAt m_answer m_isSaved m_lined m_taped m_here m_commandMany, kAr g a_ms 130 m_s]) sz) := by
  refine gOf (cc := cX7_complaints) (maxL := 2) (ret := (some .int)) (by decide) rfl (Nat.le_of_ble_eq_true rfl) ?_
  intro p e s m below meth c ls Q A hQ hx hb hr hml hts hown hlocks hE hA0 hsz hP hD hA hS hl
  have hl : lv_has ls 2 [(0, .ref (a_mo 0)), (1, .int x1)] := hl
  refine lv_aload_n hx hb dX7_complaints_0 rfl (lv_at hl 0 rfl) ?_
  refine lv_iload_n hx hb dX7_complaints_1 rfl (lv_at hl 1 rfl) ?_
  refine lv_bipush (v := 6) hx hb dX7_complaints_2 (by decide) ?_
  refine gCi1 (gRunV (As := [.int x1, .int 6]) (rest := []) ⟨hx, hb, hml, hown, hts⟩ (ctX7_ofStreet l g a_mo a_ms a_mwas a_mtried a_msaved a_mpast a_mfar a_mdrift a_mline a_mtape a_mcommands _ m_changes m_thrown m_errorAt m_failedAt m_answer m_isSaved m_lined m_taped m_here m_commandMany m_s x1 6 hw) (cwV 2 hts gX7_complaints_X7_ofStreet rfl rfl rfl (by decide +kernel) ⟨Nat.le_of_ble_eq_true rfl, Nat.le_of_ble_eq_true rfl⟩) hE (gSub hP [0, 1]) (gDSub hD [0, 1] rfl) 0 11 rfl rfl rfl rfl rfl hl.1 rfl (lv_room (Nat.le_of_ble_eq_true rfl)) dX7_complaints_4 ⟨Nat.le_of_ble_eq_true rfl, Nat.le_of_ble_eq_true rfl⟩) hP hD hS hA [0, 1] rfl (fun _ => rfl) rfl (fun r1 m_thrown_v1 H locs hw hP hD hS => ?_)
  have hP : va_P g.1 vwCl (List.flatten [kMo g a_mo a_ms a_mwas a_mtried a_msaved a_mpast a_mfar a_mdrift a_mline a_mtape a_mcommands m_changes m_thrown_v1 m_errorAt m_failedAt m_answer m_isSaved m_lined m_taped m_here m_commandMany, kAr g a_ms 130 m_s]) H := hP
  have hD : va_D A (List.flatten [kMo g a_mo a_ms a_mwas a_mtried a_msaved a_mpast a_mfar a_mdrift a_mline a_mtape a_mcommands m_changes m_thrown_v1 m_errorAt m_failedAt m_answer m_isSaved m_lined m_taped m_here m_commandMany, kAr g a_ms 130 m_s]) := hD
  subst hQ
  exact W.iret hx hb hr (gRi1 (c1 := m_thrown_v1) (wf := _) hA0 hsz hw hP hD hS) hS.2.2 dX7_complaints_7
abbrev rmX7_distance : Room := { frames := 3, cells := 0, slots := 0, locals := 149 }
set_option maxRecDepth 20000 in
theorem inX7_distance_X7 : ∀ w ∈ wsX70, w ∈ wsX7_distance := by decide +kernel
set_option maxHeartbeats 4000000 in
set_option maxRecDepth 100000 in
theorem ctX7_distance (l : Launch) (g : GG) (a_mo : Nat → Nat) (a_ms : Nat → Nat) (a_mwas : Nat → Nat) (a_mtried : Nat → Nat) (a_msaved : Nat → Nat) (a_mpast : Nat → Nat) (a_mfar : Nat → Nat) (a_mdrift : Nat → Nat) (a_mline : Nat → Nat) (a_mtape : Nat → Nat) (a_mcommands : Nat → Nat) (sz : Nat) (m_changes : Int32) (m_thrown : Int32) (m_errorAt : Int32) (m_failedAt : Int32) (m_answer : Int32) (m_isSaved : Int32) (m_lined : Int32) (m_taped : Int32) (m_here : Int32) (m_commandMany : Int32) (m_s : Nat → Int32) (m_far : Nat → Int32) (x1 : Int32) (x2 : Int32) {post : Int32 → Int32 → (Nat → Int32) → Prop} (hw : wpX7_distance x1 x2 m_thrown m_s m_far post) :
    Met l yX7_distance wsX7_distance rmX7_distance (gPc g sz (List.flatten [kMo g a_mo a_ms a_mwas a_mtried a_msaved a_mpast a_mfar a_mdrift a_mline a_mtape a_mcommands m_changes m_thrown m_errorAt m_failedAt m_answer m_isSaved m_lined m_taped m_here m_commandMany, kAr g a_ms 130 m_s, kAr g a_mfar 8 m_far]) [.ref (a_mo 0), .int x1, .int x2]) (gQi2 post (fun u1 u2 => gB g (List.flatten [kMo g a_mo a_ms a_mwas a_mtried a_msaved a_mpast a_mfar a_mdrift a_mline a_mtape a_mcommands m_changes m_thrown m_errorAt m_failedAt m_answer m_isSaved m_lined m_taped m_here m_commandMany, kAr g a_ms 130 m_s, kAr g a_mfar 8 m_far]) sz (List.flatten [kMo g a_mo a_ms a_mwas a_mtried a_msaved a_mpast a_mfar a_mdrift a_mline a_mtape a_mcommands m_changes u1 m_errorAt m_failedAt m_answer m_isSaved m_lined m_taped m_here m_commandMany, kAr g a_ms 130 m_s, kAr g a_mfar 8 u2])) (va_A (List.flatten [kMo g a_mo a_ms a_mwas a_mtried a_msaved a_mpast a_mfar a_mdrift a_mline a_mtape a_mcommands m_changes m_thrown m_errorAt m_failedAt m_answer m_isSaved m_lined m_taped m_here m_commandMany, kAr g a_ms 130 m_s, kAr g a_mfar 8 m_far]) sz)) 0 0 (va_A (List.flatten [kMo g a_mo a_ms a_mwas a_mtried a_msaved a_mpast a_mfar a_mdrift a_mline a_mtape a_mcommands m_changes m_thrown m_errorAt m_failedAt m_answer m_isSaved m_lined m_taped m_here m_commandMany, kAr g a_ms 130 m_s, kAr g a_mfar 8 m_far]) sz) := by
  refine gOf (cc := cX7_distance) (maxL := 3) (ret := (some .int)) (by decide) rfl (Nat.le_of_ble_eq_true rfl) ?_
  intro p e s m below meth c ls Q A hQ hx hb hr hml hts hown hlocks hE hA0 hsz hP hD hA hS hl
  have hl : lv_has ls 3 [(0, .ref (a_mo 0)), (1, .int x1), (2, .int x2)] := hl
  have J52 : ∀ (z1_52 : Int32) (m_thrown_52 : Int32) (m_far_52 : Nat → Int32) (H : Heap) (locs : List Loc) (ls : Array Slot), wpX7_distance_L52 x2 m_s post z1_52 m_thrown_52 m_far_52 → va_P g.1 vwCl (List.flatten [kMo g a_mo a_ms a_mwas a_mtried a_msaved a_mpast a_mfar a_mdrift a_mline a_mtape a_mcommands m_changes m_thrown_52 m_errorAt m_failedAt m_answer m_isSaved m_lined m_taped m_here m_commandMany, kAr g a_ms 130 m_s, kAr g a_mfar 8 m_far_52]) H → va_D A (List.flatten [kMo g a_mo a_ms a_mwas a_mtried a_msaved a_mpast a_mfar a_mdrift a_mline a_mtape a_mcommands m_changes m_thrown_52 m_errorAt m_failedAt m_answer m_isSaved m_lined m_taped m_here m_commandMany, kAr g a_ms 130 m_s, kAr g a_mfar 8 m_far_52]) → va_S A s.heap H locs → lv_has ls 3 [(0, .ref (a_mo 0)), (2, .int x2)] → W p l e rmX7_distance s m (([.ref (a_mo 0), .int x1, .int x2] : List Value).toArray) below meth c H locs 0 0 Q (F0 m 52 ls [.int z1_52, .ref (a_mo 0)]) := by
    intro z1_52 m_thrown_52 m_far_52 H locs ls hw hP hD hS hl
    refine lv_iconst (v := 2) hx hb dX7_distance_52 (by decide) ?_
    refine gCi1 (gRunV (As := [.int z1_52, .int 2]) (rest := []) ⟨hx, hb, hml, hown, hts⟩ (ctX7_isThrown l g a_mo a_ms a_mwas a_mtried a_msaved a_mpast a_mfar a_mdrift a_mline a_mtape a_mcommands _ m_changes m_thrown_52 m_errorAt m_failedAt m_answer m_isSaved m_lined m_taped m_here m_commandMany z1_52 2 hw) (cwV 2 hts gX7_distance_X7_isThrown rfl rfl rfl (by decide +kernel) ⟨Nat.le_of_ble_eq_true rfl, Nat.le_of_ble_eq_true rfl⟩) hE (gSub hP [0]) (gDSub hD [0] rfl) 0 11 rfl rfl rfl rfl rfl hl.1 rfl (lv_room (Nat.le_of_ble_eq_true rfl)) dX7_distance_53 ⟨Nat.le_of_ble_eq_true rfl, Nat.le_of_ble_eq_true rfl⟩) hP hD hS hA [0] rfl (fun _ => rfl) rfl (fun r5 m_thrown_v5 H locs hw hP hD hS => ?_)
    have hP : va_P g.1 vwCl (List.flatten [kMo g a_mo a_ms a_mwas a_mtried a_msaved a_mpast a_mfar a_mdrift a_mline a_mtape a_mcommands m_changes m_thrown_v5 m_errorAt m_failedAt m_answer m_isSaved m_lined m_taped m_here m_commandMany, kAr g a_ms 130 m_s, kAr g a_mfar 8 m_far_52]) H := hP
    have hD : va_D A (List.flatten [kMo g a_mo a_ms a_mwas a_mtried a_msaved a_mpast a_mfar a_mdrift a_mline a_mtape a_mcommands m_changes m_thrown_v5 m_errorAt m_failedAt m_answer m_isSaved m_lined m_taped m_here m_commandMany, kAr g a_ms 130 m_s, kAr g a_mfar 8 m_far_52]) := hD
    refine lv_if_eq (tgt := 63) hx hb dX7_distance_56 (by decide) (fun c_56 => ?_) (fun c_56 => ?_)
    · have hw := hw.1 c_56
      refine lv_aload_n hx hb dX7_distance_63 rfl (lv_at hl 0 rfl) ?_
      refine va_get (D := g.1) (ci := 11) (v := .ref (a_mfar 0)) (C := RX7) (T := TX7) (N := 20) hx hb hts inX7_distance_X7 hown hE.1 hP 0 rfl rfl 5 (by decide) (gW hts 1 (.fieldLink RX7 25 "SnowDispatcherModel" "far" "[I") rfl) (fun _ h9 => h9) rfl dX7_distance_64 ?_
      refine lv_iload_n hx hb dX7_distance_67 rfl (lv_at hl 1 rfl) ?_
      have h6 := hw.1
      have hw := hw.2
      refine va_iald hx hb hE.1 hP 2 0 rfl rfl h6 dX7_distance_68 ?_
      subst hQ
      exact W.iret hx hb hr (gRi2 (c1 := m_thrown_v5) (c2 := m_far_52) (wf := _) hA0 hsz hw hP hD hS) hS.2.2 dX7_distance_69
    · have hw := hw.2 c_56
      refine lv_iconst (v := 0) hx hb dX7_distance_59 (by decide) ?_
      refine lv_goto (tgt := 69) hx hb dX7_distance_60 (by decide) ?_
      subst hQ
      exact W.iret hx hb hr (gRi2 (c1 := m_thrown_v5) (c2 := m_far_52) (wf := _) hA0 hsz hw hP hD hS) hS.2.2 dX7_distance_69
  have J20 : ∀ (z1_20 : Int32) (m_thrown_20 : Int32) (m_far_20 : Nat → Int32) (H : Heap) (locs : List Loc) (ls : Array Slot), wpX7_distance_L20 x1 x2 m_s post z1_20 m_thrown_20 m_far_20 → va_P g.1 vwCl (List.flatten [kMo g a_mo a_ms a_mwas a_mtried a_msaved a_mpast a_mfar a_mdrift a_mline a_mtape a_mcommands m_changes m_thrown_20 m_errorAt m_failedAt m_answer m_isSaved m_lined m_taped m_here m_commandMany, kAr g a_ms 130 m_s, kAr g a_mfar 8 m_far_20]) H → va_D A (List.flatten [kMo g a_mo a_ms a_mwas a_mtried a_msaved a_mpast a_mfar a_mdrift a_mline a_mtape a_mcommands m_changes m_thrown_20 m_errorAt m_failedAt m_answer m_isSaved m_lined m_taped m_here m_commandMany, kAr g a_ms 130 m_s, kAr g a_mfar 8 m_far_20]) → va_S A s.heap H locs → lv_has ls 3 [(0, .ref (a_mo 0)), (1, .int x1), (2, .int x2)] → W p l e rmX7_distance s m (([.ref (a_mo 0), .int x1, .int x2] : List Value).toArray) below meth c H locs 0 0 Q (F0 m 20 ls [.int z1_20, .ref (a_mo 0)]) := by
    intro z1_20 m_thrown_20 m_far_20 H locs ls hw hP hD hS hl
    refine lv_iconst (v := 1) hx hb dX7_distance_20 (by decide) ?_
    refine gCi1 (gRunV (As := [.int z1_20, .int 1]) (rest := []) ⟨hx, hb, hml, hown, hts⟩ (ctX7_isThrown l g a_mo a_ms a_mwas a_mtried a_msaved a_mpast a_mfar a_mdrift a_mline a_mtape a_mcommands _ m_changes m_thrown_20 m_errorAt m_failedAt m_answer m_isSaved m_lined m_taped m_here m_commandMany z1_20 1 hw) (cwV 2 hts gX7_distance_X7_isThrown rfl rfl rfl (by decide +kernel) ⟨Nat.le_of_ble_eq_true rfl, Nat.le_of_ble_eq_true rfl⟩) hE (gSub hP [0]) (gDSub hD [0] rfl) 0 11 rfl rfl rfl rfl rfl hl.1 rfl (lv_room (Nat.le_of_ble_eq_true rfl)) dX7_distance_21 ⟨Nat.le_of_ble_eq_true rfl, Nat.le_of_ble_eq_true rfl⟩) hP hD hS hA [0] rfl (fun _ => rfl) rfl (fun r2 m_thrown_v2 H locs hw hP hD hS => ?_)
    have hP : va_P g.1 vwCl (List.flatten [kMo g a_mo a_ms a_mwas a_mtried a_msaved a_mpast a_mfar a_mdrift a_mline a_mtape a_mcommands m_changes m_thrown_v2 m_errorAt m_failedAt m_answer m_isSaved m_lined m_taped m_here m_commandMany, kAr g a_ms 130 m_s, kAr g a_mfar 8 m_far_20]) H := hP
    have hD : va_D A (List.flatten [kMo g a_mo a_ms a_mwas a_mtried a_msaved a_mpast a_mfar a_mdrift a_mline a_mtape a_mcommands m_changes m_thrown_v2 m_errorAt m_failedAt m_answer m_isSaved m_lined m_taped m_here m_commandMany, kAr g a_ms 130 m_s, kAr g a_mfar 8 m_far_20]) := hD
    refine lv_if_eq (tgt := 29) hx hb dX7_distance_24 (by decide) (fun c_24 => ?_) (fun c_24 => ?_)
    · have hw := hw.1 c_24
      refine lv_aload_n hx hb dX7_distance_29 rfl (lv_at hl 0 rfl) ?_
      refine lv_iload_n hx hb dX7_distance_30 rfl (lv_at hl 1 rfl) ?_
      refine gCv1 (gRunV (As := [.int x1]) (rest := []) ⟨hx, hb, hml, hown, hts⟩ (ctX7_finds l g a_mo a_ms a_mwas a_mtried a_msaved a_mpast a_mfar a_mdrift a_mline a_mtape a_mcommands _ m_changes m_thrown_v2 m_errorAt m_failedAt m_answer m_isSaved m_lined m_taped m_here m_commandMany m_s m_far_20 x1 hw) (cwV 1 hts gX7_distance_X7_finds rfl rfl rfl (by decide +kernel) ⟨Nat.le_of_ble_eq_true rfl, Nat.le_of_ble_eq_true rfl⟩) hE (gSub hP [0, 1, 2]) (gDSub hD [0, 1, 2] rfl) 0 11 rfl rfl rfl rfl rfl hl.1 rfl (lv_room (Nat.le_of_ble_eq_true rfl)) dX7_distance_31 ⟨Nat.le_of_ble_eq_true rfl, Nat.le_of_ble_eq_true rfl⟩) hP hD hS hA [0, 1, 2] rfl (fun _ => rfl) rfl (fun m_far_v3 H locs hw hP hD hS => ?_)
      have hP : va_P g.1 vwCl (List.flatten [kMo g a_mo a_ms a_mwas a_mtried a_msaved a_mpast a_mfar a_mdrift a_mline a_mtape a_mcommands m_changes m_thrown_v2 m_errorAt m_failedAt m_answer m_isSaved m_lined m_taped m_here m_commandMany, kAr g a_ms 130 m_s, kAr g a_mfar 8 m_far_v3]) H := hP
      have hD : va_D A (List.flatten [kMo g a_mo a_ms a_mwas a_mtried a_msaved a_mpast a_mfar a_mdrift a_mline a_mtape a_mcommands m_changes m_thrown_v2 m_errorAt m_failedAt m_answer m_isSaved m_lined m_taped m_here m_commandMany, kAr g a_ms 130 m_s, kAr g a_mfar 8 m_far_v3]) := hD
      refine lv_aload_n hx hb dX7_distance_34 rfl (lv_at hl 0 rfl) ?_
      refine lv_aload_n hx hb dX7_distance_35 rfl (lv_at hl 0 rfl) ?_
      refine va_get (D := g.1) (ci := 11) (v := .ref (a_mfar 0)) (C := RX7) (T := TX7) (N := 20) hx hb hts inX7_distance_X7 hown hE.1 hP 0 rfl rfl 5 (by decide) (gW hts 1 (.fieldLink RX7 25 "SnowDispatcherModel" "far" "[I") rfl) (fun _ h9 => h9) rfl dX7_distance_36 ?_
      refine lv_iload_n hx hb dX7_distance_39 rfl (lv_at hl 2 rfl) ?_
      have h4 := hw.1
      have hw := hw.2
      refine va_iald hx hb hE.1 hP 2 0 rfl rfl h4 dX7_distance_40 ?_
      refine lv_sipush (v := 9999) hx hb dX7_distance_41 (by decide) ?_
      refine lv_icmp_lt (tgt := 51) hx hb dX7_distance_44 (by decide) (fun c_44 => ?_) (fun c_44 => ?_)
      · have hw := hw.1 c_44
        refine lv_iconst (v := 0) hx hb dX7_distance_51 (by decide) ?_
        exact J52 0 m_thrown_v2 m_far_v3 _ _ _ hw hP hD hS (lv_sub hl [0, 2] rfl)
      · have hw := hw.2 c_44
        refine lv_iconst (v := 1) hx hb dX7_distance_47 (by decide) ?_
        refine lv_goto (tgt := 52) hx hb dX7_distance_48 (by decide) ?_
        exact J52 1 m_thrown_v2 m_far_v3 _ _ _ hw hP hD hS (lv_sub hl [0, 2] rfl)
    · have hw := hw.2 c_24
      refine lv_iconst (v := 0) hx hb dX7_distance_27 (by decide) ?_
      subst hQ
      exact W.iret hx hb hr (gRi2 (c1 := m_thrown_v2) (c2 := m_far_20) (wf := _) hA0 hsz hw hP hD hS) hS.2.2 dX7_distance_28
  refine lv_aload_n hx hb dX7_distance_0 rfl (lv_at hl 0 rfl) ?_
  refine lv_iload_n hx hb dX7_distance_1 rfl (lv_at hl 1 rfl) ?_
  refine gCi0 (gRunS (As := [.int x1]) (rest := [.ref (a_mo 0)]) ⟨hx, hb, hml, hown, hts⟩ (ctX7_isJunction l g _ x1 hw) (va_cwS 1 hts gX7_distance_X7_isJunction rfl rfl rfl (by decide +kernel) ⟨Nat.le_of_ble_eq_true rfl, Nat.le_of_ble_eq_true rfl⟩) hE (gSub hP []) (gDSub hD [] rfl) rfl rfl hl.1 rfl (lv_room (Nat.le_of_ble_eq_true rfl)) dX7_distance_2 ⟨Nat.le_of_ble_eq_true rfl, Nat.le_of_ble_eq_true rfl⟩) hP hD hS hA [] rfl rfl rfl (fun r1 H locs hw hP hD hS => ?_)
  have hP : va_P g.1 vwCl (List.flatten [kMo g a_mo a_ms a_mwas a_mtried a_msaved a_mpast a_mfar a_mdrift a_mline a_mtape a_mcommands m_changes m_thrown m_errorAt m_failedAt m_answer m_isSaved m_lined m_taped m_here m_commandMany, kAr g a_ms 130 m_s, kAr g a_mfar 8 m_far]) H := hP
  have hD : va_D A (List.flatten [kMo g a_mo a_ms a_mwas a_mtried a_msaved a_mpast a_mfar a_mdrift a_mline a_mtape a_mcommands m_changes m_thrown m_errorAt m_failedAt m_answer m_isSaved m_lined m_taped m_here m_commandMany, kAr g a_ms 130 m_s, kAr g a_mfar 8 m_far]) := hD
  refine lv_if_eq (tgt := 15) hx hb dX7_distance_5 (by decide) (fun c_5 => ?_) (fun c_5 => ?_)
  · have hw := hw.1 c_5
    refine lv_iconst (v := 1) hx hb dX7_distance_15 (by decide) ?_
    refine lv_goto (tgt := 20) hx hb dX7_distance_16 (by decide) ?_
    exact J20 1 m_thrown m_far _ _ _ hw hP hD hS (lv_sub hl [0, 1, 2] rfl)
  · have hw := hw.2 c_5
    refine lv_iload_n hx hb dX7_distance_8 rfl (lv_at hl 2 rfl) ?_
    refine gCi0 (gRunS (As := [.int x2]) (rest := [.ref (a_mo 0)]) ⟨hx, hb, hml, hown, hts⟩ (ctX7_isJunction l g _ x2 hw) (va_cwS 1 hts gX7_distance_X7_isJunction rfl rfl rfl (by decide +kernel) ⟨Nat.le_of_ble_eq_true rfl, Nat.le_of_ble_eq_true rfl⟩) hE (gSub hP []) (gDSub hD [] rfl) rfl rfl hl.1 rfl (lv_room (Nat.le_of_ble_eq_true rfl)) dX7_distance_9 ⟨Nat.le_of_ble_eq_true rfl, Nat.le_of_ble_eq_true rfl⟩) hP hD hS hA [] rfl rfl rfl (fun r7 H locs hw hP hD hS => ?_)
    have hP : va_P g.1 vwCl (List.flatten [kMo g a_mo a_ms a_mwas a_mtried a_msaved a_mpast a_mfar a_mdrift a_mline a_mtape a_mcommands m_changes m_thrown m_errorAt m_failedAt m_answer m_isSaved m_lined m_taped m_here m_commandMany, kAr g a_ms 130 m_s, kAr g a_mfar 8 m_far]) H := hP
    have hD : va_D A (List.flatten [kMo g a_mo a_ms a_mwas a_mtried a_msaved a_mpast a_mfar a_mdrift a_mline a_mtape a_mcommands m_changes m_thrown m_errorAt m_failedAt m_answer m_isSaved m_lined m_taped m_here m_commandMany, kAr g a_ms 130 m_s, kAr g a_mfar 8 m_far]) := hD
    refine lv_if_ne (tgt := 19) hx hb dX7_distance_12 (by decide) (fun c_12 => ?_) (fun c_12 => ?_)
    · have hw := hw.1 c_12
      refine lv_iconst (v := 0) hx hb dX7_distance_19 (by decide) ?_
      exact J20 0 m_thrown m_far _ _ _ hw hP hD hS (lv_sub hl [0, 1, 2] rfl)
    · have hw := hw.2 c_12
      refine lv_iconst (v := 1) hx hb dX7_distance_15 (by decide) ?_
      refine lv_goto (tgt := 20) hx hb dX7_distance_16 (by decide) ?_
      exact J20 1 m_thrown m_far _ _ _ hw hP hD hS (lv_sub hl [0, 1, 2] rfl)
abbrev rmX7_distanceByJunctions : Room := { frames := 4, cells := 0, slots := 0, locals := 172 }
set_option maxRecDepth 20000 in
theorem inX7_distanceByJunctions_X7 : ∀ w ∈ wsX70, w ∈ wsX7_distanceByJunctions := by decide +kernel
set_option maxHeartbeats 4000000 in
set_option maxRecDepth 100000 in
theorem ctX7_distanceByJunctions (l : Launch) (g : GG) (a_mo : Nat → Nat) (a_ms : Nat → Nat) (a_mwas : Nat → Nat) (a_mtried : Nat → Nat) (a_msaved : Nat → Nat) (a_mpast : Nat → Nat) (a_mfar : Nat → Nat) (a_mdrift : Nat → Nat) (a_mline : Nat → Nat) (a_mtape : Nat → Nat) (a_mcommands : Nat → Nat) (sz : Nat) (m_changes : Int32) (m_thrown : Int32) (m_errorAt : Int32) (m_failedAt : Int32) (m_answer : Int32) (m_isSaved : Int32) (m_lined : Int32) (m_taped : Int32) (m_here : Int32) (m_commandMany : Int32) (m_s : Nat → Int32) (m_far : Nat → Int32) (x1 : Int32) (x2 : Int32) {post : Int32 → Int32 → (Nat → Int32) → Prop} (hw : wpX7_distanceByJunctions x1 x2 m_thrown m_s m_far post) :
    Met l yX7_distanceByJunctions wsX7_distanceByJunctions rmX7_distanceByJunctions (gPc g sz (List.flatten [kMo g a_mo a_ms a_mwas a_mtried a_msaved a_mpast a_mfar a_mdrift a_mline a_mtape a_mcommands m_changes m_thrown m_errorAt m_failedAt m_answer m_isSaved m_lined m_taped m_here m_commandMany, kAr g a_ms 130 m_s, kAr g a_mfar 8 m_far]) [.ref (a_mo 0), .int x1, .int x2]) (gQi2 post (fun u1 u2 => gB g (List.flatten [kMo g a_mo a_ms a_mwas a_mtried a_msaved a_mpast a_mfar a_mdrift a_mline a_mtape a_mcommands m_changes m_thrown m_errorAt m_failedAt m_answer m_isSaved m_lined m_taped m_here m_commandMany, kAr g a_ms 130 m_s, kAr g a_mfar 8 m_far]) sz (List.flatten [kMo g a_mo a_ms a_mwas a_mtried a_msaved a_mpast a_mfar a_mdrift a_mline a_mtape a_mcommands m_changes u1 m_errorAt m_failedAt m_answer m_isSaved m_lined m_taped m_here m_commandMany, kAr g a_ms 130 m_s, kAr g a_mfar 8 u2])) (va_A (List.flatten [kMo g a_mo a_ms a_mwas a_mtried a_msaved a_mpast a_mfar a_mdrift a_mline a_mtape a_mcommands m_changes m_thrown m_errorAt m_failedAt m_answer m_isSaved m_lined m_taped m_here m_commandMany, kAr g a_ms 130 m_s, kAr g a_mfar 8 m_far]) sz)) 0 0 (va_A (List.flatten [kMo g a_mo a_ms a_mwas a_mtried a_msaved a_mpast a_mfar a_mdrift a_mline a_mtape a_mcommands m_changes m_thrown m_errorAt m_failedAt m_answer m_isSaved m_lined m_taped m_here m_commandMany, kAr g a_ms 130 m_s, kAr g a_mfar 8 m_far]) sz) := by
  refine gOf (cc := cX7_distanceByJunctions) (maxL := 3) (ret := (some .int)) (by decide) rfl (Nat.le_of_ble_eq_true rfl) ?_
  intro p e s m below meth c ls Q A hQ hx hb hr hml hts hown hlocks hE hA0 hsz hP hD hA hS hl
  have hl : lv_has ls 3 [(0, .ref (a_mo 0)), (1, .int x1), (2, .int x2)] := hl
  refine lv_aload_n hx hb dX7_distanceByJunctions_0 rfl (lv_at hl 0 rfl) ?_
  refine lv_iload_n hx hb dX7_distanceByJunctions_1 rfl (lv_at hl 1 rfl) ?_
  refine lv_iload_n hx hb dX7_distanceByJunctions_2 rfl (lv_at hl 2 rfl) ?_
  refine gCi2 (gRunV (As := [.int x1, .int x2]) (rest := []) ⟨hx, hb, hml, hown, hts⟩ (ctX7_distance l g a_mo a_ms a_mwas a_mtried a_msaved a_mpast a_mfar a_mdrift a_mline a_mtape a_mcommands _ m_changes m_thrown m_errorAt m_failedAt m_answer m_isSaved m_lined m_taped m_here m_commandMany m_s m_far x1 x2 hw) (cwV 2 hts gX7_distanceByJunctions_X7_distance rfl rfl rfl (by decide +kernel) ⟨Nat.le_of_ble_eq_true rfl, Nat.le_of_ble_eq_true rfl⟩) hE (gSub hP [0, 1, 2]) (gDSub hD [0, 1, 2] rfl) 0 11 rfl rfl rfl rfl rfl hl.1 rfl (lv_room (Nat.le_of_ble_eq_true rfl)) dX7_distanceByJunctions_3 ⟨Nat.le_of_ble_eq_true rfl, Nat.le_of_ble_eq_true rfl⟩) hP hD hS hA [0, 1, 2] rfl (fun _ _ => rfl) rfl (fun r1 m_thrown_v1 m_far_v1 H locs hw hP hD hS => ?_)
  have hP : va_P g.1 vwCl (List.flatten [kMo g a_mo a_ms a_mwas a_mtried a_msaved a_mpast a_mfar a_mdrift a_mline a_mtape a_mcommands m_changes m_thrown_v1 m_errorAt m_failedAt m_answer m_isSaved m_lined m_taped m_here m_commandMany, kAr g a_ms 130 m_s, kAr g a_mfar 8 m_far_v1]) H := hP
  have hD : va_D A (List.flatten [kMo g a_mo a_ms a_mwas a_mtried a_msaved a_mpast a_mfar a_mdrift a_mline a_mtape a_mcommands m_changes m_thrown_v1 m_errorAt m_failedAt m_answer m_isSaved m_lined m_taped m_here m_commandMany, kAr g a_ms 130 m_s, kAr g a_mfar 8 m_far_v1]) := hD
  subst hQ
  exact W.iret hx hb hr (gRi2 (c1 := m_thrown_v1) (c2 := m_far_v1) (wf := _) hA0 hsz hw hP hD hS) hS.2.2 dX7_distanceByJunctions_6
abbrev rmX7_isAhead : Room := { frames := 3, cells := 0, slots := 0, locals := 145 }
set_option maxRecDepth 20000 in
theorem inX7_isAhead_X7 : ∀ w ∈ wsX70, w ∈ wsX7_isAhead := by decide +kernel
set_option maxHeartbeats 4000000 in
set_option maxRecDepth 100000 in
theorem ctX7_isAhead (l : Launch) (g : GG) (a_mo : Nat → Nat) (a_ms : Nat → Nat) (a_mwas : Nat → Nat) (a_mtried : Nat → Nat) (a_msaved : Nat → Nat) (a_mpast : Nat → Nat) (a_mfar : Nat → Nat) (a_mdrift : Nat → Nat) (a_mline : Nat → Nat) (a_mtape : Nat → Nat) (a_mcommands : Nat → Nat) (sz : Nat) (m_changes : Int32) (m_thrown : Int32) (m_errorAt : Int32) (m_failedAt : Int32) (m_answer : Int32) (m_isSaved : Int32) (m_lined : Int32) (m_taped : Int32) (m_here : Int32) (m_commandMany : Int32) (m_s : Nat → Int32) (x1 : Int32) (x2 : Int32) {post : Int32 → Prop} (hw : wpX7_isAhead x1 x2 m_s post) :
    Met l yX7_isAhead wsX7_isAhead rmX7_isAhead (gPc g sz (List.flatten [kMo g a_mo a_ms a_mwas a_mtried a_msaved a_mpast a_mfar a_mdrift a_mline a_mtape a_mcommands m_changes m_thrown m_errorAt m_failedAt m_answer m_isSaved m_lined m_taped m_here m_commandMany, kAr g a_ms 130 m_s]) [.ref (a_mo 0), .int x1, .int x2]) (gQi0 post (gB g (List.flatten [kMo g a_mo a_ms a_mwas a_mtried a_msaved a_mpast a_mfar a_mdrift a_mline a_mtape a_mcommands m_changes m_thrown m_errorAt m_failedAt m_answer m_isSaved m_lined m_taped m_here m_commandMany, kAr g a_ms 130 m_s]) sz (List.flatten [kMo g a_mo a_ms a_mwas a_mtried a_msaved a_mpast a_mfar a_mdrift a_mline a_mtape a_mcommands m_changes m_thrown m_errorAt m_failedAt m_answer m_isSaved m_lined m_taped m_here m_commandMany, kAr g a_ms 130 m_s])) (va_A (List.flatten [kMo g a_mo a_ms a_mwas a_mtried a_msaved a_mpast a_mfar a_mdrift a_mline a_mtape a_mcommands m_changes m_thrown m_errorAt m_failedAt m_answer m_isSaved m_lined m_taped m_here m_commandMany, kAr g a_ms 130 m_s]) sz)) 0 0 (va_A (List.flatten [kMo g a_mo a_ms a_mwas a_mtried a_msaved a_mpast a_mfar a_mdrift a_mline a_mtape a_mcommands m_changes m_thrown m_errorAt m_failedAt m_answer m_isSaved m_lined m_taped m_here m_commandMany, kAr g a_ms 130 m_s]) sz) := by
  refine gOf (cc := cX7_isAhead) (maxL := 5) (ret := (some .boolean)) (by decide) rfl (Nat.le_of_ble_eq_true rfl) ?_
  intro p e s m below meth c ls Q A hQ hx hb hr hml hts hown hlocks hE hA0 hsz hP hD hA hS hl
  have hl : lv_has ls 5 [(0, .ref (a_mo 0)), (1, .int x1), (2, .int x2)] := hl
  refine lv_aload_n hx hb dX7_isAhead_0 rfl (lv_at hl 0 rfl) ?_
  refine lv_iload_n hx hb dX7_isAhead_1 rfl (lv_at hl 1 rfl) ?_
  refine lv_iconst (v := 4) hx hb dX7_isAhead_2 (by decide) ?_
  refine gCi0 (gRunV (As := [.int x1, .int 4]) (rest := []) ⟨hx, hb, hml, hown, hts⟩ (ctX7_of l g a_mo a_ms a_mwas a_mtried a_msaved a_mpast a_mfar a_mdrift a_mline a_mtape a_mcommands _ m_changes m_thrown m_errorAt m_failedAt m_answer m_isSaved m_lined m_taped m_here m_commandMany m_s x1 4 hw) (cwV 2 hts gX7_isAhead_X7_of rfl rfl rfl (by decide +kernel) ⟨Nat.le_of_ble_eq_true rfl, Nat.le_of_ble_eq_true rfl⟩) hE (gSub hP [0, 1]) (gDSub hD [0, 1] rfl) 0 11 rfl rfl rfl rfl rfl hl.1 rfl (lv_room (Nat.le_of_ble_eq_true rfl)) dX7_isAhead_3 ⟨Nat.le_of_ble_eq_true rfl, Nat.le_of_ble_eq_true rfl⟩) hP hD hS hA [0, 1] rfl rfl rfl (fun r1 H locs hw hP hD hS => ?_)
  have hP : va_P g.1 vwCl (List.flatten [kMo g a_mo a_ms a_mwas a_mtried a_msaved a_mpast a_mfar a_mdrift a_mline a_mtape a_mcommands m_changes m_thrown m_errorAt m_failedAt m_answer m_isSaved m_lined m_taped m_here m_commandMany, kAr g a_ms 130 m_s]) H := hP
  have hD : va_D A (List.flatten [kMo g a_mo a_ms a_mwas a_mtried a_msaved a_mpast a_mfar a_mdrift a_mline a_mtape a_mcommands m_changes m_thrown m_errorAt m_failedAt m_answer m_isSaved m_lined m_taped m_here m_commandMany, kAr g a_ms 130 m_s]) := hD
  refine lv_aload_n hx hb dX7_isAhead_6 rfl (lv_at hl 0 rfl) ?_
  refine lv_iload_n hx hb dX7_isAhead_7 rfl (lv_at hl 1 rfl) ?_
  refine gCi0 (gRunV (As := [.int x1]) (rest := [.int r1]) ⟨hx, hb, hml, hown, hts⟩ (ctX7_limit l g a_mo a_ms a_mwas a_mtried a_msaved a_mpast a_mfar a_mdrift a_mline a_mtape a_mcommands _ m_changes m_thrown m_errorAt m_failedAt m_answer m_isSaved m_lined m_taped m_here m_commandMany m_s x1 hw) (cwV 1 hts gX7_isAhead_X7_limit rfl rfl rfl (by decide +kernel) ⟨Nat.le_of_ble_eq_true rfl, Nat.le_of_ble_eq_true rfl⟩) hE (gSub hP [0, 1]) (gDSub hD [0, 1] rfl) 0 11 rfl rfl rfl rfl rfl hl.1 rfl (lv_room (Nat.le_of_ble_eq_true rfl)) dX7_isAhead_8 ⟨Nat.le_of_ble_eq_true rfl, Nat.le_of_ble_eq_true rfl⟩) hP hD hS hA [0, 1] rfl rfl rfl (fun r2 H locs hw hP hD hS => ?_)
  have hP : va_P g.1 vwCl (List.flatten [kMo g a_mo a_ms a_mwas a_mtried a_msaved a_mpast a_mfar a_mdrift a_mline a_mtape a_mcommands m_changes m_thrown m_errorAt m_failedAt m_answer m_isSaved m_lined m_taped m_here m_commandMany, kAr g a_ms 130 m_s]) H := hP
  have hD : va_D A (List.flatten [kMo g a_mo a_ms a_mwas a_mtried a_msaved a_mpast a_mfar a_mdrift a_mline a_mtape a_mcommands m_changes m_thrown m_errorAt m_failedAt m_answer m_isSaved m_lined m_taped m_here m_commandMany, kAr g a_ms 130 m_s]) := hD
  refine lv_isub hx hb dX7_isAhead_11 ?_
  refine lv_aload_n hx hb dX7_isAhead_12 rfl (lv_at hl 0 rfl) ?_
  refine lv_iload_n hx hb dX7_isAhead_13 rfl (lv_at hl 2 rfl) ?_
  refine lv_iconst (v := 4) hx hb dX7_isAhead_14 (by decide) ?_
  refine gCi0 (gRunV (As := [.int x2, .int 4]) (rest := [.int (r1 - r2)]) ⟨hx, hb, hml, hown, hts⟩ (ctX7_of l g a_mo a_ms a_mwas a_mtried a_msaved a_mpast a_mfar a_mdrift a_mline a_mtape a_mcommands _ m_changes m_thrown m_errorAt m_failedAt m_answer m_isSaved m_lined m_taped m_here m_commandMany m_s x2 4 hw) (cwV 2 hts gX7_isAhead_X7_of rfl rfl rfl (by decide +kernel) ⟨Nat.le_of_ble_eq_true rfl, Nat.le_of_ble_eq_true rfl⟩) hE (gSub hP [0, 1]) (gDSub hD [0, 1] rfl) 0 11 rfl rfl rfl rfl rfl hl.1 rfl (lv_room (Nat.le_of_ble_eq_true rfl)) dX7_isAhead_15 ⟨Nat.le_of_ble_eq_true rfl, Nat.le_of_ble_eq_true rfl⟩) hP hD hS hA [0, 1] rfl rfl rfl (fun r3 H locs hw hP hD hS => ?_)
  have hP : va_P g.1 vwCl (List.flatten [kMo g a_mo a_ms a_mwas a_mtried a_msaved a_mpast a_mfar a_mdrift a_mline a_mtape a_mcommands m_changes m_thrown m_errorAt m_failedAt m_answer m_isSaved m_lined m_taped m_here m_commandMany, kAr g a_ms 130 m_s]) H := hP
  have hD : va_D A (List.flatten [kMo g a_mo a_ms a_mwas a_mtried a_msaved a_mpast a_mfar a_mdrift a_mline a_mtape a_mcommands m_changes m_thrown m_errorAt m_failedAt m_answer m_isSaved m_lined m_taped m_here m_commandMany, kAr g a_ms 130 m_s]) := hD
  refine lv_isub hx hb dX7_isAhead_18 ?_
  refine lv_aload_n hx hb dX7_isAhead_19 rfl (lv_at hl 0 rfl) ?_
  refine lv_iload_n hx hb dX7_isAhead_20 rfl (lv_at hl 2 rfl) ?_
  refine gCi0 (gRunV (As := [.int x2]) (rest := [.int ((r1 - r2) - r3)]) ⟨hx, hb, hml, hown, hts⟩ (ctX7_limit l g a_mo a_ms a_mwas a_mtried a_msaved a_mpast a_mfar a_mdrift a_mline a_mtape a_mcommands _ m_changes m_thrown m_errorAt m_failedAt m_answer m_isSaved m_lined m_taped m_here m_commandMany m_s x2 hw) (cwV 1 hts gX7_isAhead_X7_limit rfl rfl rfl (by decide +kernel) ⟨Nat.le_of_ble_eq_true rfl, Nat.le_of_ble_eq_true rfl⟩) hE (gSub hP [0, 1]) (gDSub hD [0, 1] rfl) 0 11 rfl rfl rfl rfl rfl hl.1 rfl (lv_room (Nat.le_of_ble_eq_true rfl)) dX7_isAhead_21 ⟨Nat.le_of_ble_eq_true rfl, Nat.le_of_ble_eq_true rfl⟩) hP hD hS hA [0, 1] rfl rfl rfl (fun r4 H locs hw hP hD hS => ?_)
  have hP : va_P g.1 vwCl (List.flatten [kMo g a_mo a_ms a_mwas a_mtried a_msaved a_mpast a_mfar a_mdrift a_mline a_mtape a_mcommands m_changes m_thrown m_errorAt m_failedAt m_answer m_isSaved m_lined m_taped m_here m_commandMany, kAr g a_ms 130 m_s]) H := hP
  have hD : va_D A (List.flatten [kMo g a_mo a_ms a_mwas a_mtried a_msaved a_mpast a_mfar a_mdrift a_mline a_mtape a_mcommands m_changes m_thrown m_errorAt m_failedAt m_answer m_isSaved m_lined m_taped m_here m_commandMany, kAr g a_ms 130 m_s]) := hD
  refine lv_iadd hx hb dX7_isAhead_24 ?_
  refine lv_istore_n (lv' := [(3, .int (((r1 - r2) - r3) + r4)), (0, .ref (a_mo 0)), (1, .int x1), (2, .int x2)]) hx hb dX7_isAhead_25 rfl hl (by decide) rfl (fun ls hl => ?_)
  refine lv_iload_n hx hb dX7_isAhead_26 rfl (lv_at hl 0 rfl) ?_
  refine lv_if_eq (tgt := 40) hx hb dX7_isAhead_27 (by decide) (fun c_27 => ?_) (fun c_27 => ?_)
  · have hw := hw.1 c_27
    refine lv_aload_n hx hb dX7_isAhead_40 rfl (lv_at hl 1 rfl) ?_
    refine lv_iload_n hx hb dX7_isAhead_41 rfl (lv_at hl 3 rfl) ?_
    refine lv_iconst (v := 2) hx hb dX7_isAhead_42 (by decide) ?_
    refine gCi0 (gRunV (As := [.int x2, .int 2]) (rest := []) ⟨hx, hb, hml, hown, hts⟩ (ctX7_of l g a_mo a_ms a_mwas a_mtried a_msaved a_mpast a_mfar a_mdrift a_mline a_mtape a_mcommands _ m_changes m_thrown m_errorAt m_failedAt m_answer m_isSaved m_lined m_taped m_here m_commandMany m_s x2 2 hw) (cwV 2 hts gX7_isAhead_X7_of rfl rfl rfl (by decide +kernel) ⟨Nat.le_of_ble_eq_true rfl, Nat.le_of_ble_eq_true rfl⟩) hE (gSub hP [0, 1]) (gDSub hD [0, 1] rfl) 0 11 rfl rfl rfl rfl rfl hl.1 rfl (lv_room (Nat.le_of_ble_eq_true rfl)) dX7_isAhead_43 ⟨Nat.le_of_ble_eq_true rfl, Nat.le_of_ble_eq_true rfl⟩) hP hD hS hA [0, 1] rfl rfl rfl (fun r5 H locs hw hP hD hS => ?_)
    have hP : va_P g.1 vwCl (List.flatten [kMo g a_mo a_ms a_mwas a_mtried a_msaved a_mpast a_mfar a_mdrift a_mline a_mtape a_mcommands m_changes m_thrown m_errorAt m_failedAt m_answer m_isSaved m_lined m_taped m_here m_commandMany, kAr g a_ms 130 m_s]) H := hP
    have hD : va_D A (List.flatten [kMo g a_mo a_ms a_mwas a_mtried a_msaved a_mpast a_mfar a_mdrift a_mline a_mtape a_mcommands m_changes m_thrown m_errorAt m_failedAt m_answer m_isSaved m_lined m_taped m_here m_commandMany, kAr g a_ms 130 m_s]) := hD
    refine lv_aload_n hx hb dX7_isAhead_46 rfl (lv_at hl 1 rfl) ?_
    refine lv_iload_n hx hb dX7_isAhead_47 rfl (lv_at hl 2 rfl) ?_
    refine lv_iconst (v := 2) hx hb dX7_isAhead_48 (by decide) ?_
    refine gCi0 (gRunV (As := [.int x1, .int 2]) (rest := [.int r5]) ⟨hx, hb, hml, hown, hts⟩ (ctX7_of l g a_mo a_ms a_mwas a_mtried a_msaved a_mpast a_mfar a_mdrift a_mline a_mtape a_mcommands _ m_changes m_thrown m_errorAt m_failedAt m_answer m_isSaved m_lined m_taped m_here m_commandMany m_s x1 2 hw) (cwV 2 hts gX7_isAhead_X7_of rfl rfl rfl (by decide +kernel) ⟨Nat.le_of_ble_eq_true rfl, Nat.le_of_ble_eq_true rfl⟩) hE (gSub hP [0, 1]) (gDSub hD [0, 1] rfl) 0 11 rfl rfl rfl rfl rfl hl.1 rfl (lv_room (Nat.le_of_ble_eq_true rfl)) dX7_isAhead_49 ⟨Nat.le_of_ble_eq_true rfl, Nat.le_of_ble_eq_true rfl⟩) hP hD hS hA [0, 1] rfl rfl rfl (fun r6 H locs hw hP hD hS => ?_)
    have hP : va_P g.1 vwCl (List.flatten [kMo g a_mo a_ms a_mwas a_mtried a_msaved a_mpast a_mfar a_mdrift a_mline a_mtape a_mcommands m_changes m_thrown m_errorAt m_failedAt m_answer m_isSaved m_lined m_taped m_here m_commandMany, kAr g a_ms 130 m_s]) H := hP
    have hD : va_D A (List.flatten [kMo g a_mo a_ms a_mwas a_mtried a_msaved a_mpast a_mfar a_mdrift a_mline a_mtape a_mcommands m_changes m_thrown m_errorAt m_failedAt m_answer m_isSaved m_lined m_taped m_here m_commandMany, kAr g a_ms 130 m_s]) := hD
    refine lv_isub hx hb dX7_isAhead_52 ?_
    refine lv_istore (lv' := [(4, .int (r5 - r6)), (3, .int (((r1 - r2) - r3) + r4)), (0, .ref (a_mo 0)), (1, .int x1), (2, .int x2)]) hx hb dX7_isAhead_53 hl (by decide) rfl (fun ls hl => ?_)
    refine lv_iload hx hb dX7_isAhead_55 (lv_at hl 0 rfl) ?_
    refine lv_if_eq (tgt := 73) hx hb dX7_isAhead_57 (by decide) (fun c_57 => ?_) (fun c_57 => ?_)
    · have hw := hw.1 c_57
      refine lv_iload_n hx hb dX7_isAhead_73 rfl (lv_at hl 3 rfl) ?_
      refine lv_iload_n hx hb dX7_isAhead_74 rfl (lv_at hl 4 rfl) ?_
      refine lv_icmp_ge (tgt := 82) hx hb dX7_isAhead_75 (by decide) (fun c_75 => ?_) (fun c_75 => ?_)
      · have hw := hw.1 c_75
        refine lv_iconst (v := 0) hx hb dX7_isAhead_82 (by decide) ?_
        subst hQ
        exact W.zret (ty := .boolean) hx hb hr (by decide) (gRi0 (wf := _) hA0 hsz hw hP hD hS) hS.2.2 dX7_isAhead_83
      · have hw := hw.2 c_75
        refine lv_iconst (v := 1) hx hb dX7_isAhead_78 (by decide) ?_
        refine lv_goto (tgt := 83) hx hb dX7_isAhead_79 (by decide) ?_
        subst hQ
        exact W.zret (ty := .boolean) hx hb hr (by decide) (gRi0 (wf := _) hA0 hsz hw hP hD hS) hS.2.2 dX7_isAhead_83
    · have hw := hw.2 c_57
      refine lv_iload hx hb dX7_isAhead_60 (lv_at hl 0 rfl) ?_
      refine lv_if_le (tgt := 69) hx hb dX7_isAhead_62 (by decide) (fun c_62 => ?_) (fun c_62 => ?_)
      · have hw := hw.1 c_62
        refine lv_iconst (v := 0) hx hb dX7_isAhead_69 (by decide) ?_
        refine lv_goto (tgt := 83) hx hb dX7_isAhead_70 (by decide) ?_
        subst hQ
        exact W.zret (ty := .boolean) hx hb hr (by decide) (gRi0 (wf := _) hA0 hsz hw hP hD hS) hS.2.2 dX7_isAhead_83
      · have hw := hw.2 c_62
        refine lv_iconst (v := 1) hx hb dX7_isAhead_65 (by decide) ?_
        refine lv_goto (tgt := 83) hx hb dX7_isAhead_66 (by decide) ?_
        subst hQ
        exact W.zret (ty := .boolean) hx hb hr (by decide) (gRi0 (wf := _) hA0 hsz hw hP hD hS) hS.2.2 dX7_isAhead_83
  · have hw := hw.2 c_27
    refine lv_iload_n hx hb dX7_isAhead_30 rfl (lv_at hl 0 rfl) ?_
    refine lv_if_le (tgt := 38) hx hb dX7_isAhead_31 (by decide) (fun c_31 => ?_) (fun c_31 => ?_)
    · have hw := hw.1 c_31
      refine lv_iconst (v := 0) hx hb dX7_isAhead_38 (by decide) ?_
      subst hQ
      exact W.zret (ty := .boolean) hx hb hr (by decide) (gRi0 (wf := _) hA0 hsz hw hP hD hS) hS.2.2 dX7_isAhead_39
    · have hw := hw.2 c_31
      refine lv_iconst (v := 1) hx hb dX7_isAhead_34 (by decide) ?_
      refine lv_goto (tgt := 39) hx hb dX7_isAhead_35 (by decide) ?_
      subst hQ
      exact W.zret (ty := .boolean) hx hb hr (by decide) (gRi0 (wf := _) hA0 hsz hw hP hD hS) hS.2.2 dX7_isAhead_39
abbrev rmX7_streetByUrgency : Room := { frames := 4, cells := 0, slots := 0, locals := 170 }
set_option maxRecDepth 20000 in
theorem inX7_streetByUrgency_X7 : ∀ w ∈ wsX70, w ∈ wsX7_streetByUrgency := by decide +kernel
set_option maxHeartbeats 4000000 in
set_option maxRecDepth 100000 in
theorem ctX7_streetByUrgency (l : Launch) (g : GG) (a_mo : Nat → Nat) (a_ms : Nat → Nat) (a_mwas : Nat → Nat) (a_mtried : Nat → Nat) (a_msaved : Nat → Nat) (a_mpast : Nat → Nat) (a_mfar : Nat → Nat) (a_mdrift : Nat → Nat) (a_mline : Nat → Nat) (a_mtape : Nat → Nat) (a_mcommands : Nat → Nat) (sz : Nat) (m_changes : Int32) (m_thrown : Int32) (m_errorAt : Int32) (m_failedAt : Int32) (m_answer : Int32) (m_isSaved : Int32) (m_lined : Int32) (m_taped : Int32) (m_here : Int32) (m_commandMany : Int32) (m_s : Nat → Int32) (x1 : Int32) {post : Int32 → Int32 → Prop} (hw : wpX7_streetByUrgency x1 m_thrown m_s post) :
    Met l yX7_streetByUrgency wsX7_streetByUrgency rmX7_streetByUrgency (gPc g sz (List.flatten [kMo g a_mo a_ms a_mwas a_mtried a_msaved a_mpast a_mfar a_mdrift a_mline a_mtape a_mcommands m_changes m_thrown m_errorAt m_failedAt m_answer m_isSaved m_lined m_taped m_here m_commandMany, kAr g a_ms 130 m_s]) [.ref (a_mo 0), .int x1]) (gQi1 post (fun u1 => gB g (List.flatten [kMo g a_mo a_ms a_mwas a_mtried a_msaved a_mpast a_mfar a_mdrift a_mline a_mtape a_mcommands m_changes m_thrown m_errorAt m_failedAt m_answer m_isSaved m_lined m_taped m_here m_commandMany, kAr g a_ms 130 m_s]) sz (List.flatten [kMo g a_mo a_ms a_mwas a_mtried a_msaved a_mpast a_mfar a_mdrift a_mline a_mtape a_mcommands m_changes u1 m_errorAt m_failedAt m_answer m_isSaved m_lined m_taped m_here m_commandMany, kAr g a_ms 130 m_s])) (va_A (List.flatten [kMo g a_mo a_ms a_mwas a_mtried a_msaved a_mpast a_mfar a_mdrift a_mline a_mtape a_mcommands m_changes m_thrown m_errorAt m_failedAt m_answer m_isSaved m_lined m_taped m_here m_commandMany, kAr g a_ms 130 m_s]) sz)) 0 0 (va_A (List.flatten [kMo g a_mo a_ms a_mwas a_mtried a_msaved a_mpast a_mfar a_mdrift a_mline a_mtape a_mcommands m_changes m_thrown m_errorAt m_failedAt m_answer m_isSaved m_lined m_taped m_here m_commandMany, kAr g a_ms 130 m_s]) sz) := by
  refine gOf (cc := cX7_streetByUrgency) (maxL := 5) (ret := (some .int)) (by decide) rfl (Nat.le_of_ble_eq_true rfl) ?_
  intro p e s m below meth c ls Q A hQ hx hb hr hml hts hown hlocks hE hA0 hsz hP hD hA hS hl
  have hl : lv_has ls 5 [(0, .ref (a_mo 0)), (1, .int x1)] := hl
  have L2 : ∀ (n : Nat) (m_thrown_2 : Int32) (x2_2 : Int32) (H : Heap) (locs : List Loc) (ls : Array Slot), wpX7_streetByUrgency_L2 x1 m_s m_thrown_2 post n x2_2 → va_P g.1 vwCl (List.flatten [kMo g a_mo a_ms a_mwas a_mtried a_msaved a_mpast a_mfar a_mdrift a_mline a_mtape a_mcommands m_changes m_thrown_2 m_errorAt m_failedAt m_answer m_isSaved m_lined m_taped m_here m_commandMany, kAr g a_ms 130 m_s]) H → va_D A (List.flatten [kMo g a_mo a_ms a_mwas a_mtried a_msaved a_mpast a_mfar a_mdrift a_mline a_mtape a_mcommands m_changes m_thrown_2 m_errorAt m_failedAt m_answer m_isSaved m_lined m_taped m_here m_commandMany, kAr g a_ms 130 m_s]) → va_S A s.heap H locs → lv_has ls 5 [(0, .ref (a_mo 0)), (1, .int x1), (2, .int x2_2)] → W p l e rmX7_streetByUrgency s m (([.ref (a_mo 0), .int x1] : List Value).toArray) below meth c H locs 0 0 Q (F0 m 2 ls []) := by
    intro n_2
    induction n_2 with
    | zero => intro m_thrown_2 x2_2 H locs ls hw; exact False.elim hw
    | succ n_2 ih_2 =>
      intro m_thrown_2 x2_2 H locs ls hw hP hD hS hl
      have L17 : ∀ (n : Nat) (x2_17 : Int32) (x3_17 : Int32) (x4_17 : Int32) (H : Heap) (locs : List Loc) (ls : Array Slot), wpX7_streetByUrgency_L17 x1 m_thrown_2 m_s x2_17 (wpX7_streetByUrgency_L2 x1 m_s m_thrown_2 post n_2) post n x3_17 x4_17 → va_P g.1 vwCl (List.flatten [kMo g a_mo a_ms a_mwas a_mtried a_msaved a_mpast a_mfar a_mdrift a_mline a_mtape a_mcommands m_changes m_thrown_2 m_errorAt m_failedAt m_answer m_isSaved m_lined m_taped m_here m_commandMany, kAr g a_ms 130 m_s]) H → va_D A (List.flatten [kMo g a_mo a_ms a_mwas a_mtried a_msaved a_mpast a_mfar a_mdrift a_mline a_mtape a_mcommands m_changes m_thrown_2 m_errorAt m_failedAt m_answer m_isSaved m_lined m_taped m_here m_commandMany, kAr g a_ms 130 m_s]) → va_S A s.heap H locs → lv_has ls 5 [(0, .ref (a_mo 0)), (1, .int x1), (2, .int x2_17), (3, .int x3_17), (4, .int x4_17)] → W p l e rmX7_streetByUrgency s m (([.ref (a_mo 0), .int x1] : List Value).toArray) below meth c H locs 0 0 Q (F0 m 17 ls []) := by
        intro n_17
        induction n_17 with
        | zero => intro x2_17 x3_17 x4_17 H locs ls hw; exact False.elim hw
        | succ n_17 ih_17 =>
          intro x2_17 x3_17 x4_17 H locs ls hw hP hD hS hl
          refine lv_iload hx hb dX7_streetByUrgency_17 (lv_at hl 4 rfl) ?_
          refine lv_aload_n hx hb dX7_streetByUrgency_19 rfl (lv_at hl 0 rfl) ?_
          refine va_get (D := g.1) (ci := 11) (v := .ref (a_ms 0)) (C := RX7) (T := TX7) (N := 20) hx hb hts inX7_streetByUrgency_X7 hown hE.1 hP 0 rfl rfl 0 (by decide) (gW hts 1 (.fieldLink RX7 9 "SnowDispatcherModel" "s" "[I") rfl) (fun _ h9 => h9) rfl dX7_streetByUrgency_20 ?_
          refine lv_iconst (v := 1) hx hb dX7_streetByUrgency_23 (by decide) ?_
          have h2 := hw.1
          have hw := hw.2
          refine va_iald hx hb hE.1 hP 1 0 rfl rfl h2 dX7_streetByUrgency_24 ?_
          refine lv_icmp_ge (tgt := 58) hx hb dX7_streetByUrgency_25 (by decide) (fun c_25 => ?_) (fun c_25 => ?_)
          · have hw := hw.1 c_25
            refine lv_iload_n hx hb dX7_streetByUrgency_58 rfl (lv_at hl 3 rfl) ?_
            refine lv_iload_n hx hb dX7_streetByUrgency_59 rfl (lv_at hl 1 rfl) ?_
            refine lv_icmp_ne (tgt := 70) hx hb dX7_streetByUrgency_60 (by decide) (fun c_60 => ?_) (fun c_60 => ?_)
            · have hw := hw.1 c_60
              refine lv_iinc (v := (x2_17 + 1)) (lv' := [(2, .int (x2_17 + 1)), (0, .ref (a_mo 0)), (1, .int x1), (3, .int x3_17), (4, .int x4_17)]) hx hb dX7_streetByUrgency_70 hl (k := 2) rfl rfl (by decide) rfl (fun ls hl => ?_)
              refine lv_goto (tgt := 2) hx hb dX7_streetByUrgency_73 (by decide) ?_
              exact ih_2 m_thrown_2 (x2_17 + 1) _ _ _ hw hP hD hS (lv_sub hl [1, 2, 0] rfl)
            · have hw := hw.2 c_60
              refine lv_aload_n hx hb dX7_streetByUrgency_63 rfl (lv_at hl 0 rfl) ?_
              refine lv_iconst (v := 0) hx hb dX7_streetByUrgency_64 (by decide) ?_
              refine va_put (D := g.1) (ci := 11) (v := .int 0) (ty := .int) (C := RX7) (T := TX7) (N := 20) hx hb hts inX7_streetByUrgency_X7 tyX7 tyX7_ok nmX7 hown hE.1 hP hD hS 0 rfl rfl 8 (by decide) (gW hts 2 (.fieldLink RX7 47 "SnowDispatcherModel" "thrown" "I") rfl) (fun _ h9 => h9) rfl (by decide +kernel) rfl rfl (Nat.le_of_ble_eq_true rfl) dX7_streetByUrgency_65 (fun H locs hP hD hS => ?_)
              have hP : va_P g.1 vwCl (List.flatten [kMo g a_mo a_ms a_mwas a_mtried a_msaved a_mpast a_mfar a_mdrift a_mline a_mtape a_mcommands m_changes 0 m_errorAt m_failedAt m_answer m_isSaved m_lined m_taped m_here m_commandMany, kAr g a_ms 130 m_s]) H := hP
              have hD : va_D A (List.flatten [kMo g a_mo a_ms a_mwas a_mtried a_msaved a_mpast a_mfar a_mdrift a_mline a_mtape a_mcommands m_changes 0 m_errorAt m_failedAt m_answer m_isSaved m_lined m_taped m_here m_commandMany, kAr g a_ms 130 m_s]) := hD
              refine lv_iload_n hx hb dX7_streetByUrgency_68 rfl (lv_at hl 2 rfl) ?_
              subst hQ
              exact W.iret hx hb hr (gRi1 (c1 := 0) (wf := _) hA0 hsz hw hP hD hS) hS.2.2 dX7_streetByUrgency_69
          · have hw := hw.2 c_25
            refine lv_iload_n hx hb dX7_streetByUrgency_28 rfl (lv_at hl 3 rfl) ?_
            refine lv_iload hx hb dX7_streetByUrgency_29 (lv_at hl 4 rfl) ?_
            refine lv_iload_n hx hb dX7_streetByUrgency_31 rfl (lv_at hl 2 rfl) ?_
            refine lv_icmp_eq (tgt := 49) hx hb dX7_streetByUrgency_32 (by decide) (fun c_32 => ?_) (fun c_32 => ?_)
            · have hw := hw.1 c_32
              refine lv_iconst (v := 0) hx hb dX7_streetByUrgency_49 (by decide) ?_
              refine lv_iadd hx hb dX7_streetByUrgency_50 ?_
              refine lv_istore_n (lv' := [(3, .int (x3_17 + 0)), (0, .ref (a_mo 0)), (1, .int x1), (2, .int x2_17), (4, .int x4_17)]) hx hb dX7_streetByUrgency_51 rfl hl (by decide) rfl (fun ls hl => ?_)
              refine lv_iinc (v := (x4_17 + 1)) (lv' := [(4, .int (x4_17 + 1)), (3, .int (x3_17 + 0)), (0, .ref (a_mo 0)), (1, .int x1), (2, .int x2_17)]) hx hb dX7_streetByUrgency_52 hl (k := 4) rfl rfl (by decide) rfl (fun ls hl => ?_)
              refine lv_goto (tgt := 17) hx hb dX7_streetByUrgency_55 (by decide) ?_
              exact ih_17 x2_17 (x3_17 + 0) (x4_17 + 1) _ _ _ hw hP hD hS (lv_sub hl [2, 3, 4, 1, 0] rfl)
            · have hw := hw.2 c_32
              refine lv_aload_n hx hb dX7_streetByUrgency_35 rfl (lv_at hl 0 rfl) ?_
              refine lv_iload hx hb dX7_streetByUrgency_36 (lv_at hl 4 rfl) ?_
              refine lv_iload_n hx hb dX7_streetByUrgency_38 rfl (lv_at hl 2 rfl) ?_
              refine gCi0 (gRunV (As := [.int x4_17, .int x2_17]) (rest := [.int x3_17]) ⟨hx, hb, hml, hown, hts⟩ (ctX7_isAhead l g a_mo a_ms a_mwas a_mtried a_msaved a_mpast a_mfar a_mdrift a_mline a_mtape a_mcommands _ m_changes m_thrown_2 m_errorAt m_failedAt m_answer m_isSaved m_lined m_taped m_here m_commandMany m_s x4_17 x2_17 hw) (cwV 2 hts gX7_streetByUrgency_X7_isAhead rfl rfl rfl (by decide +kernel) ⟨Nat.le_of_ble_eq_true rfl, Nat.le_of_ble_eq_true rfl⟩) hE (gSub hP [0, 1]) (gDSub hD [0, 1] rfl) 0 11 rfl rfl rfl rfl rfl hl.1 rfl (lv_room (Nat.le_of_ble_eq_true rfl)) dX7_streetByUrgency_39 ⟨Nat.le_of_ble_eq_true rfl, Nat.le_of_ble_eq_true rfl⟩) hP hD hS hA [0, 1] rfl rfl rfl (fun r3 H locs hw hP hD hS => ?_)
              have hP : va_P g.1 vwCl (List.flatten [kMo g a_mo a_ms a_mwas a_mtried a_msaved a_mpast a_mfar a_mdrift a_mline a_mtape a_mcommands m_changes m_thrown_2 m_errorAt m_failedAt m_answer m_isSaved m_lined m_taped m_here m_commandMany, kAr g a_ms 130 m_s]) H := hP
              have hD : va_D A (List.flatten [kMo g a_mo a_ms a_mwas a_mtried a_msaved a_mpast a_mfar a_mdrift a_mline a_mtape a_mcommands m_changes m_thrown_2 m_errorAt m_failedAt m_answer m_isSaved m_lined m_taped m_here m_commandMany, kAr g a_ms 130 m_s]) := hD
              refine lv_if_eq (tgt := 49) hx hb dX7_streetByUrgency_42 (by decide) (fun c_42 => ?_) (fun c_42 => ?_)
              · have hw := hw.1 c_42
                refine lv_iconst (v := 0) hx hb dX7_streetByUrgency_49 (by decide) ?_
                refine lv_iadd hx hb dX7_streetByUrgency_50 ?_
                refine lv_istore_n (lv' := [(3, .int (x3_17 + 0)), (0, .ref (a_mo 0)), (1, .int x1), (2, .int x2_17), (4, .int x4_17)]) hx hb dX7_streetByUrgency_51 rfl hl (by decide) rfl (fun ls hl => ?_)
                refine lv_iinc (v := (x4_17 + 1)) (lv' := [(4, .int (x4_17 + 1)), (3, .int (x3_17 + 0)), (0, .ref (a_mo 0)), (1, .int x1), (2, .int x2_17)]) hx hb dX7_streetByUrgency_52 hl (k := 4) rfl rfl (by decide) rfl (fun ls hl => ?_)
                refine lv_goto (tgt := 17) hx hb dX7_streetByUrgency_55 (by decide) ?_
                exact ih_17 x2_17 (x3_17 + 0) (x4_17 + 1) _ _ _ hw hP hD hS (lv_sub hl [2, 3, 4, 1, 0] rfl)
              · have hw := hw.2 c_42
                refine lv_iconst (v := 1) hx hb dX7_streetByUrgency_45 (by decide) ?_
                refine lv_goto (tgt := 50) hx hb dX7_streetByUrgency_46 (by decide) ?_
                refine lv_iadd hx hb dX7_streetByUrgency_50 ?_
                refine lv_istore_n (lv' := [(3, .int (x3_17 + 1)), (0, .ref (a_mo 0)), (1, .int x1), (2, .int x2_17), (4, .int x4_17)]) hx hb dX7_streetByUrgency_51 rfl hl (by decide) rfl (fun ls hl => ?_)
                refine lv_iinc (v := (x4_17 + 1)) (lv' := [(4, .int (x4_17 + 1)), (3, .int (x3_17 + 1)), (0, .ref (a_mo 0)), (1, .int x1), (2, .int x2_17)]) hx hb dX7_streetByUrgency_52 hl (k := 4) rfl rfl (by decide) rfl (fun ls hl => ?_)
                refine lv_goto (tgt := 17) hx hb dX7_streetByUrgency_55 (by decide) ?_
                exact ih_17 x2_17 (x3_17 + 1) (x4_17 + 1) _ _ _ hw hP hD hS (lv_sub hl [2, 3, 4, 1, 0] rfl)
      refine lv_iload_n hx hb dX7_streetByUrgency_2 rfl (lv_at hl 2 rfl) ?_
      refine lv_aload_n hx hb dX7_streetByUrgency_3 rfl (lv_at hl 0 rfl) ?_
      refine va_get (D := g.1) (ci := 11) (v := .ref (a_ms 0)) (C := RX7) (T := TX7) (N := 20) hx hb hts inX7_streetByUrgency_X7 hown hE.1 hP 0 rfl rfl 0 (by decide) (gW hts 1 (.fieldLink RX7 9 "SnowDispatcherModel" "s" "[I") rfl) (fun _ h9 => h9) rfl dX7_streetByUrgency_4 ?_
      refine lv_iconst (v := 1) hx hb dX7_streetByUrgency_7 (by decide) ?_
      have h1 := hw.1
      have hw := hw.2
      refine va_iald hx hb hE.1 hP 1 0 rfl rfl h1 dX7_streetByUrgency_8 ?_
      refine lv_icmp_ge (tgt := 76) hx hb dX7_streetByUrgency_9 (by decide) (fun c_9 => ?_) (fun c_9 => ?_)
      · have hw := hw.1 c_9
        refine lv_aload_n hx hb dX7_streetByUrgency_76 rfl (lv_at hl 0 rfl) ?_
        refine lv_iconst (v := 1) hx hb dX7_streetByUrgency_77 (by decide) ?_
        refine va_put (D := g.1) (ci := 11) (v := .int 1) (ty := .int) (C := RX7) (T := TX7) (N := 20) hx hb hts inX7_streetByUrgency_X7 tyX7 tyX7_ok nmX7 hown hE.1 hP hD hS 0 rfl rfl 8 (by decide) (gW hts 2 (.fieldLink RX7 47 "SnowDispatcherModel" "thrown" "I") rfl) (fun _ h9 => h9) rfl (by decide +kernel) rfl rfl (Nat.le_of_ble_eq_true rfl) dX7_streetByUrgency_78 (fun H locs hP hD hS => ?_)
        have hP : va_P g.1 vwCl (List.flatten [kMo g a_mo a_ms a_mwas a_mtried a_msaved a_mpast a_mfar a_mdrift a_mline a_mtape a_mcommands m_changes 1 m_errorAt m_failedAt m_answer m_isSaved m_lined m_taped m_here m_commandMany, kAr g a_ms 130 m_s]) H := hP
        have hD : va_D A (List.flatten [kMo g a_mo a_ms a_mwas a_mtried a_msaved a_mpast a_mfar a_mdrift a_mline a_mtape a_mcommands m_changes 1 m_errorAt m_failedAt m_answer m_isSaved m_lined m_taped m_here m_commandMany, kAr g a_ms 130 m_s]) := hD
        refine lv_iconst (v := 0) hx hb dX7_streetByUrgency_81 (by decide) ?_
        subst hQ
        exact W.iret hx hb hr (gRi1 (c1 := 1) (wf := _) hA0 hsz hw hP hD hS) hS.2.2 dX7_streetByUrgency_82
      · have hw := hw.2 c_9
        refine lv_iconst (v := 0) hx hb dX7_streetByUrgency_12 (by decide) ?_
        refine lv_istore_n (lv' := [(3, .int 0), (0, .ref (a_mo 0)), (1, .int x1), (2, .int x2_2)]) hx hb dX7_streetByUrgency_13 rfl hl (by decide) rfl (fun ls hl => ?_)
        refine lv_iconst (v := 0) hx hb dX7_streetByUrgency_14 (by decide) ?_
        refine lv_istore (lv' := [(4, .int 0), (3, .int 0), (0, .ref (a_mo 0)), (1, .int x1), (2, .int x2_2)]) hx hb dX7_streetByUrgency_15 hl (by decide) rfl (fun ls hl => ?_)
        obtain ⟨n, hw⟩ := hw
        exact L17 n x2_2 0 0 _ _ _ hw hP hD hS (lv_sub hl [2, 3, 4, 1, 0] rfl)
  refine lv_iconst (v := 0) hx hb dX7_streetByUrgency_0 (by decide) ?_
  refine lv_istore_n (lv' := [(2, .int 0), (0, .ref (a_mo 0)), (1, .int x1)]) hx hb dX7_streetByUrgency_1 rfl hl (by decide) rfl (fun ls hl => ?_)
  obtain ⟨n, hw⟩ := hw
  exact L2 n m_thrown 0 _ _ _ hw hP hD hS (lv_sub hl [1, 2, 0] rfl)
abbrev rmX7_ploughCount : Room := { frames := 1, cells := 0, slots := 0, locals := 100 }
set_option maxRecDepth 20000 in
theorem inX7_ploughCount_X7 : ∀ w ∈ wsX70, w ∈ wsX7_ploughCount := by decide +kernel
set_option maxHeartbeats 4000000 in
set_option maxRecDepth 100000 in
theorem ctX7_ploughCount (l : Launch) (g : GG) (a_mo : Nat → Nat) (a_ms : Nat → Nat) (a_mwas : Nat → Nat) (a_mtried : Nat → Nat) (a_msaved : Nat → Nat) (a_mpast : Nat → Nat) (a_mfar : Nat → Nat) (a_mdrift : Nat → Nat) (a_mline : Nat → Nat) (a_mtape : Nat → Nat) (a_mcommands : Nat → Nat) (sz : Nat) (m_changes : Int32) (m_thrown : Int32) (m_errorAt : Int32) (m_failedAt : Int32) (m_answer : Int32) (m_isSaved : Int32) (m_lined : Int32) (m_taped : Int32) (m_here : Int32) (m_commandMany : Int32) (m_s : Nat → Int32) {post : Int32 → Int32 → Prop} (hw : wpX7_ploughCount m_thrown m_s post) :
    Met l yX7_ploughCount wsX7_ploughCount rmX7_ploughCount (gPc g sz (List.flatten [kMo g a_mo a_ms a_mwas a_mtried a_msaved a_mpast a_mfar a_mdrift a_mline a_mtape a_mcommands m_changes m_thrown m_errorAt m_failedAt m_answer m_isSaved m_lined m_taped m_here m_commandMany, kAr g a_ms 130 m_s]) [.ref (a_mo 0)]) (gQi1 post (fun u1 => gB g (List.flatten [kMo g a_mo a_ms a_mwas a_mtried a_msaved a_mpast a_mfar a_mdrift a_mline a_mtape a_mcommands m_changes m_thrown m_errorAt m_failedAt m_answer m_isSaved m_lined m_taped m_here m_commandMany, kAr g a_ms 130 m_s]) sz (List.flatten [kMo g a_mo a_ms a_mwas a_mtried a_msaved a_mpast a_mfar a_mdrift a_mline a_mtape a_mcommands m_changes u1 m_errorAt m_failedAt m_answer m_isSaved m_lined m_taped m_here m_commandMany, kAr g a_ms 130 m_s])) (va_A (List.flatten [kMo g a_mo a_ms a_mwas a_mtried a_msaved a_mpast a_mfar a_mdrift a_mline a_mtape a_mcommands m_changes m_thrown m_errorAt m_failedAt m_answer m_isSaved m_lined m_taped m_here m_commandMany, kAr g a_ms 130 m_s]) sz)) 0 0 (va_A (List.flatten [kMo g a_mo a_ms a_mwas a_mtried a_msaved a_mpast a_mfar a_mdrift a_mline a_mtape a_mcommands m_changes m_thrown m_errorAt m_failedAt m_answer m_isSaved m_lined m_taped m_here m_commandMany, kAr g a_ms 130 m_s]) sz) := by
  refine gOf (cc := cX7_ploughCount) (maxL := 1) (ret := (some .int)) (by decide) rfl (Nat.le_of_ble_eq_true rfl) ?_
  intro p e s m below meth c ls Q A hQ hx hb hr hml hts hown hlocks hE hA0 hsz hP hD hA hS hl
  have hl : lv_has ls 1 [(0, .ref (a_mo 0))] := hl
  refine lv_aload_n hx hb dX7_ploughCount_0 rfl (lv_at hl 0 rfl) ?_
  refine lv_iconst (v := 0) hx hb dX7_ploughCount_1 (by decide) ?_
  refine va_put (D := g.1) (ci := 11) (v := .int 0) (ty := .int) (C := RX7) (T := TX7) (N := 20) hx hb hts inX7_ploughCount_X7 tyX7 tyX7_ok nmX7 hown hE.1 hP hD hS 0 rfl rfl 8 (by decide) (gW hts 1 (.fieldLink RX7 47 "SnowDispatcherModel" "thrown" "I") rfl) (fun _ h9 => h9) rfl (by decide +kernel) rfl rfl (Nat.le_of_ble_eq_true rfl) dX7_ploughCount_2 (fun H locs hP hD hS => ?_)
  have hP : va_P g.1 vwCl (List.flatten [kMo g a_mo a_ms a_mwas a_mtried a_msaved a_mpast a_mfar a_mdrift a_mline a_mtape a_mcommands m_changes 0 m_errorAt m_failedAt m_answer m_isSaved m_lined m_taped m_here m_commandMany, kAr g a_ms 130 m_s]) H := hP
  have hD : va_D A (List.flatten [kMo g a_mo a_ms a_mwas a_mtried a_msaved a_mpast a_mfar a_mdrift a_mline a_mtape a_mcommands m_changes 0 m_errorAt m_failedAt m_answer m_isSaved m_lined m_taped m_here m_commandMany, kAr g a_ms 130 m_s]) := hD
  refine lv_aload_n hx hb dX7_ploughCount_5 rfl (lv_at hl 0 rfl) ?_
  refine va_get (D := g.1) (ci := 11) (v := .ref (a_ms 0)) (C := RX7) (T := TX7) (N := 20) hx hb hts inX7_ploughCount_X7 hown hE.1 hP 0 rfl rfl 0 (by decide) (gW hts 2 (.fieldLink RX7 9 "SnowDispatcherModel" "s" "[I") rfl) (fun _ h9 => h9) rfl dX7_ploughCount_6 ?_
  refine lv_iconst (v := 2) hx hb dX7_ploughCount_9 (by decide) ?_
  have h1 := hw.1
  have hw := hw.2
  refine va_iald hx hb hE.1 hP 1 0 rfl rfl h1 dX7_ploughCount_10 ?_
  subst hQ
  exact W.iret hx hb hr (gRi1 (c1 := 0) (wf := _) hA0 hsz hw hP hD hS) hS.2.2 dX7_ploughCount_11
abbrev rmX7_tellsPlough : Room := { frames := 3, cells := 0, slots := 0, locals := 145 }
set_option maxRecDepth 20000 in
theorem inX7_tellsPlough_X7 : ∀ w ∈ wsX70, w ∈ wsX7_tellsPlough := by decide +kernel
set_option maxHeartbeats 4000000 in
set_option maxRecDepth 100000 in
theorem ctX7_tellsPlough (l : Launch) (g : GG) (a_mo : Nat → Nat) (a_ms : Nat → Nat) (a_mwas : Nat → Nat) (a_mtried : Nat → Nat) (a_msaved : Nat → Nat) (a_mpast : Nat → Nat) (a_mfar : Nat → Nat) (a_mdrift : Nat → Nat) (a_mline : Nat → Nat) (a_mtape : Nat → Nat) (a_mcommands : Nat → Nat) (sz : Nat) (m_changes : Int32) (m_thrown : Int32) (m_errorAt : Int32) (m_failedAt : Int32) (m_answer : Int32) (m_isSaved : Int32) (m_lined : Int32) (m_taped : Int32) (m_here : Int32) (m_commandMany : Int32) (m_s : Nat → Int32) (x1 : Int32) (x2 : Int32) {post : Int32 → Int32 → Prop} (hw : wpX7_tellsPlough x1 x2 m_thrown m_s post) :
    Met l yX7_tellsPlough wsX7_tellsPlough rmX7_tellsPlough (gPc g sz (List.flatten [kMo g a_mo a_ms a_mwas a_mtried a_msaved a_mpast a_mfar a_mdrift a_mline a_mtape a_mcommands m_changes m_thrown m_errorAt m_failedAt m_answer m_isSaved m_lined m_taped m_here m_commandMany, kAr g a_ms 130 m_s]) [.ref (a_mo 0), .int x1, .int x2]) (gQi1 post (fun u1 => gB g (List.flatten [kMo g a_mo a_ms a_mwas a_mtried a_msaved a_mpast a_mfar a_mdrift a_mline a_mtape a_mcommands m_changes m_thrown m_errorAt m_failedAt m_answer m_isSaved m_lined m_taped m_here m_commandMany, kAr g a_ms 130 m_s]) sz (List.flatten [kMo g a_mo a_ms a_mwas a_mtried a_msaved a_mpast a_mfar a_mdrift a_mline a_mtape a_mcommands m_changes u1 m_errorAt m_failedAt m_answer m_isSaved m_lined m_taped m_here m_commandMany, kAr g a_ms 130 m_s])) (va_A (List.flatten [kMo g a_mo a_ms a_mwas a_mtried a_msaved a_mpast a_mfar a_mdrift a_mline a_mtape a_mcommands m_changes m_thrown m_errorAt m_failedAt m_answer m_isSaved m_lined m_taped m_here m_commandMany, kAr g a_ms 130 m_s]) sz)) 0 0 (va_A (List.flatten [kMo g a_mo a_ms a_mwas a_mtried a_msaved a_mpast a_mfar a_mdrift a_mline a_mtape a_mcommands m_changes m_thrown m_errorAt m_failedAt m_answer m_isSaved m_lined m_taped m_here m_commandMany, kAr g a_ms 130 m_s]) sz) := by
  refine gOf (cc := cX7_tellsPlough) (maxL := 3) (ret := (some .int)) (by decide) rfl (Nat.le_of_ble_eq_true rfl) ?_
  intro p e s m below meth c ls Q A hQ hx hb hr hml hts hown hlocks hE hA0 hsz hP hD hA hS hl
  have hl : lv_has ls 3 [(0, .ref (a_mo 0)), (1, .int x1), (2, .int x2)] := hl
  have J14 : ∀ (z1_14 : Int32) (m_thrown_14 : Int32) (H : Heap) (locs : List Loc) (ls : Array Slot), wpX7_tellsPlough_L14 x1 x2 m_s post z1_14 m_thrown_14 → va_P g.1 vwCl (List.flatten [kMo g a_mo a_ms a_mwas a_mtried a_msaved a_mpast a_mfar a_mdrift a_mline a_mtape a_mcommands m_changes m_thrown_14 m_errorAt m_failedAt m_answer m_isSaved m_lined m_taped m_here m_commandMany, kAr g a_ms 130 m_s]) H → va_D A (List.flatten [kMo g a_mo a_ms a_mwas a_mtried a_msaved a_mpast a_mfar a_mdrift a_mline a_mtape a_mcommands m_changes m_thrown_14 m_errorAt m_failedAt m_answer m_isSaved m_lined m_taped m_here m_commandMany, kAr g a_ms 130 m_s]) → va_S A s.heap H locs → lv_has ls 3 [(0, .ref (a_mo 0)), (1, .int x1), (2, .int x2)] → W p l e rmX7_tellsPlough s m (([.ref (a_mo 0), .int x1, .int x2] : List Value).toArray) below meth c H locs 0 0 Q (F0 m 14 ls [.int z1_14, .ref (a_mo 0)]) := by
    intro z1_14 m_thrown_14 H locs ls hw hP hD hS hl
    refine lv_iconst (v := 1) hx hb dX7_tellsPlough_14 (by decide) ?_
    refine gCi1 (gRunV (As := [.int z1_14, .int 1]) (rest := []) ⟨hx, hb, hml, hown, hts⟩ (ctX7_isThrown l g a_mo a_ms a_mwas a_mtried a_msaved a_mpast a_mfar a_mdrift a_mline a_mtape a_mcommands _ m_changes m_thrown_14 m_errorAt m_failedAt m_answer m_isSaved m_lined m_taped m_here m_commandMany z1_14 1 hw) (cwV 2 hts gX7_tellsPlough_X7_isThrown rfl rfl rfl (by decide +kernel) ⟨Nat.le_of_ble_eq_true rfl, Nat.le_of_ble_eq_true rfl⟩) hE (gSub hP [0]) (gDSub hD [0] rfl) 0 11 rfl rfl rfl rfl rfl hl.1 rfl (lv_room (Nat.le_of_ble_eq_true rfl)) dX7_tellsPlough_15 ⟨Nat.le_of_ble_eq_true rfl, Nat.le_of_ble_eq_true rfl⟩) hP hD hS hA [0] rfl (fun _ => rfl) rfl (fun r2 m_thrown_v2 H locs hw hP hD hS => ?_)
    have hP : va_P g.1 vwCl (List.flatten [kMo g a_mo a_ms a_mwas a_mtried a_msaved a_mpast a_mfar a_mdrift a_mline a_mtape a_mcommands m_changes m_thrown_v2 m_errorAt m_failedAt m_answer m_isSaved m_lined m_taped m_here m_commandMany, kAr g a_ms 130 m_s]) H := hP
    have hD : va_D A (List.flatten [kMo g a_mo a_ms a_mwas a_mtried a_msaved a_mpast a_mfar a_mdrift a_mline a_mtape a_mcommands m_changes m_thrown_v2 m_errorAt m_failedAt m_answer m_isSaved m_lined m_taped m_here m_commandMany, kAr g a_ms 130 m_s]) := hD
    refine lv_if_eq (tgt := 25) hx hb dX7_tellsPlough_18 (by decide) (fun c_18 => ?_) (fun c_18 => ?_)
    · have hw := hw.1 c_18
      refine lv_aload_n hx hb dX7_tellsPlough_25 rfl (lv_at hl 0 rfl) ?_
      refine lv_iload_n hx hb dX7_tellsPlough_26 rfl (lv_at hl 1 rfl) ?_
      refine lv_iload_n hx hb dX7_tellsPlough_27 rfl (lv_at hl 2 rfl) ?_
      refine gCi0 (gRunV (As := [.int x1, .int x2]) (rest := []) ⟨hx, hb, hml, hown, hts⟩ (ctX7_ofPlough l g a_mo a_ms a_mwas a_mtried a_msaved a_mpast a_mfar a_mdrift a_mline a_mtape a_mcommands _ m_changes m_thrown_v2 m_errorAt m_failedAt m_answer m_isSaved m_lined m_taped m_here m_commandMany m_s x1 x2 hw) (cwV 2 hts gX7_tellsPlough_X7_ofPlough rfl rfl rfl (by decide +kernel) ⟨Nat.le_of_ble_eq_true rfl, Nat.le_of_ble_eq_true rfl⟩) hE (gSub hP [0, 1]) (gDSub hD [0, 1] rfl) 0 11 rfl rfl rfl rfl rfl hl.1 rfl (lv_room (Nat.le_of_ble_eq_true rfl)) dX7_tellsPlough_28 ⟨Nat.le_of_ble_eq_true rfl, Nat.le_of_ble_eq_true rfl⟩) hP hD hS hA [0, 1] rfl rfl rfl (fun r3 H locs hw hP hD hS => ?_)
      have hP : va_P g.1 vwCl (List.flatten [kMo g a_mo a_ms a_mwas a_mtried a_msaved a_mpast a_mfar a_mdrift a_mline a_mtape a_mcommands m_changes m_thrown_v2 m_errorAt m_failedAt m_answer m_isSaved m_lined m_taped m_here m_commandMany, kAr g a_ms 130 m_s]) H := hP
      have hD : va_D A (List.flatten [kMo g a_mo a_ms a_mwas a_mtried a_msaved a_mpast a_mfar a_mdrift a_mline a_mtape a_mcommands m_changes m_thrown_v2 m_errorAt m_failedAt m_answer m_isSaved m_lined m_taped m_here m_commandMany, kAr g a_ms 130 m_s]) := hD
      subst hQ
      exact W.iret hx hb hr (gRi1 (c1 := m_thrown_v2) (wf := _) hA0 hsz hw hP hD hS) hS.2.2 dX7_tellsPlough_31
    · have hw := hw.2 c_18
      refine lv_iconst (v := 0) hx hb dX7_tellsPlough_21 (by decide) ?_
      refine lv_goto (tgt := 31) hx hb dX7_tellsPlough_22 (by decide) ?_
      subst hQ
      exact W.iret hx hb hr (gRi1 (c1 := m_thrown_v2) (wf := _) hA0 hsz hw hP hD hS) hS.2.2 dX7_tellsPlough_31
  refine lv_aload_n hx hb dX7_tellsPlough_0 rfl (lv_at hl 0 rfl) ?_
  refine lv_aload_n hx hb dX7_tellsPlough_1 rfl (lv_at hl 0 rfl) ?_
  refine lv_iload_n hx hb dX7_tellsPlough_2 rfl (lv_at hl 1 rfl) ?_
  refine gCi0 (gRunV (As := [.int x1]) (rest := [.ref (a_mo 0)]) ⟨hx, hb, hml, hown, hts⟩ (ctX7_isPlough l g a_mo a_ms a_mwas a_mtried a_msaved a_mpast a_mfar a_mdrift a_mline a_mtape a_mcommands _ m_changes m_thrown m_errorAt m_failedAt m_answer m_isSaved m_lined m_taped m_here m_commandMany m_s x1 hw) (cwV 1 hts gX7_tellsPlough_X7_isPlough rfl rfl rfl (by decide +kernel) ⟨Nat.le_of_ble_eq_true rfl, Nat.le_of_ble_eq_true rfl⟩) hE (gSub hP [0, 1]) (gDSub hD [0, 1] rfl) 0 11 rfl rfl rfl rfl rfl hl.1 rfl (lv_room (Nat.le_of_ble_eq_true rfl)) dX7_tellsPlough_3 ⟨Nat.le_of_ble_eq_true rfl, Nat.le_of_ble_eq_true rfl⟩) hP hD hS hA [0, 1] rfl rfl rfl (fun r1 H locs hw hP hD hS => ?_)
  have hP : va_P g.1 vwCl (List.flatten [kMo g a_mo a_ms a_mwas a_mtried a_msaved a_mpast a_mfar a_mdrift a_mline a_mtape a_mcommands m_changes m_thrown m_errorAt m_failedAt m_answer m_isSaved m_lined m_taped m_here m_commandMany, kAr g a_ms 130 m_s]) H := hP
  have hD : va_D A (List.flatten [kMo g a_mo a_ms a_mwas a_mtried a_msaved a_mpast a_mfar a_mdrift a_mline a_mtape a_mcommands m_changes m_thrown m_errorAt m_failedAt m_answer m_isSaved m_lined m_taped m_here m_commandMany, kAr g a_ms 130 m_s]) := hD
  refine lv_if_ne (tgt := 13) hx hb dX7_tellsPlough_6 (by decide) (fun c_6 => ?_) (fun c_6 => ?_)
  · have hw := hw.1 c_6
    refine lv_iconst (v := 0) hx hb dX7_tellsPlough_13 (by decide) ?_
    exact J14 0 m_thrown _ _ _ hw hP hD hS (lv_sub hl [0, 1, 2] rfl)
  · have hw := hw.2 c_6
    refine lv_iconst (v := 1) hx hb dX7_tellsPlough_9 (by decide) ?_
    refine lv_goto (tgt := 14) hx hb dX7_tellsPlough_10 (by decide) ?_
    exact J14 1 m_thrown _ _ _ hw hP hD hS (lv_sub hl [0, 1, 2] rfl)
abbrev rmX7_isBusy : Room := { frames := 4, cells := 0, slots := 0, locals := 168 }
set_option maxRecDepth 20000 in
theorem inX7_isBusy_X7 : ∀ w ∈ wsX70, w ∈ wsX7_isBusy := by decide +kernel
set_option maxHeartbeats 4000000 in
set_option maxRecDepth 100000 in
theorem ctX7_isBusy (l : Launch) (g : GG) (a_mo : Nat → Nat) (a_ms : Nat → Nat) (a_mwas : Nat → Nat) (a_mtried : Nat → Nat) (a_msaved : Nat → Nat) (a_mpast : Nat → Nat) (a_mfar : Nat → Nat) (a_mdrift : Nat → Nat) (a_mline : Nat → Nat) (a_mtape : Nat → Nat) (a_mcommands : Nat → Nat) (sz : Nat) (m_changes : Int32) (m_thrown : Int32) (m_errorAt : Int32) (m_failedAt : Int32) (m_answer : Int32) (m_isSaved : Int32) (m_lined : Int32) (m_taped : Int32) (m_here : Int32) (m_commandMany : Int32) (m_s : Nat → Int32) (x1 : Int32) {post : Int32 → Int32 → Prop} (hw : wpX7_isBusy x1 m_thrown m_s post) :
    Met l yX7_isBusy wsX7_isBusy rmX7_isBusy (gPc g sz (List.flatten [kMo g a_mo a_ms a_mwas a_mtried a_msaved a_mpast a_mfar a_mdrift a_mline a_mtape a_mcommands m_changes m_thrown m_errorAt m_failedAt m_answer m_isSaved m_lined m_taped m_here m_commandMany, kAr g a_ms 130 m_s]) [.ref (a_mo 0), .int x1]) (gQi1 post (fun u1 => gB g (List.flatten [kMo g a_mo a_ms a_mwas a_mtried a_msaved a_mpast a_mfar a_mdrift a_mline a_mtape a_mcommands m_changes m_thrown m_errorAt m_failedAt m_answer m_isSaved m_lined m_taped m_here m_commandMany, kAr g a_ms 130 m_s]) sz (List.flatten [kMo g a_mo a_ms a_mwas a_mtried a_msaved a_mpast a_mfar a_mdrift a_mline a_mtape a_mcommands m_changes u1 m_errorAt m_failedAt m_answer m_isSaved m_lined m_taped m_here m_commandMany, kAr g a_ms 130 m_s])) (va_A (List.flatten [kMo g a_mo a_ms a_mwas a_mtried a_msaved a_mpast a_mfar a_mdrift a_mline a_mtape a_mcommands m_changes m_thrown m_errorAt m_failedAt m_answer m_isSaved m_lined m_taped m_here m_commandMany, kAr g a_ms 130 m_s]) sz)) 0 0 (va_A (List.flatten [kMo g a_mo a_ms a_mwas a_mtried a_msaved a_mpast a_mfar a_mdrift a_mline a_mtape a_mcommands m_changes m_thrown m_errorAt m_failedAt m_answer m_isSaved m_lined m_taped m_here m_commandMany, kAr g a_ms 130 m_s]) sz) := by
  refine gOf (cc := cX7_isBusy) (maxL := 2) (ret := (some .boolean)) (by decide) rfl (Nat.le_of_ble_eq_true rfl) ?_
  intro p e s m below meth c ls Q A hQ hx hb hr hml hts hown hlocks hE hA0 hsz hP hD hA hS hl
  have hl : lv_has ls 2 [(0, .ref (a_mo 0)), (1, .int x1)] := hl
  refine lv_aload_n hx hb dX7_isBusy_0 rfl (lv_at hl 0 rfl) ?_
  refine lv_iload_n hx hb dX7_isBusy_1 rfl (lv_at hl 1 rfl) ?_
  refine lv_iconst (v := 1) hx hb dX7_isBusy_2 (by decide) ?_
  refine gCi1 (gRunV (As := [.int x1, .int 1]) (rest := []) ⟨hx, hb, hml, hown, hts⟩ (ctX7_tellsPlough l g a_mo a_ms a_mwas a_mtried a_msaved a_mpast a_mfar a_mdrift a_mline a_mtape a_mcommands _ m_changes m_thrown m_errorAt m_failedAt m_answer m_isSaved m_lined m_taped m_here m_commandMany m_s x1 1 hw) (cwV 2 hts gX7_isBusy_X7_tellsPlough rfl rfl rfl (by decide +kernel) ⟨Nat.le_of_ble_eq_true rfl, Nat.le_of_ble_eq_true rfl⟩) hE (gSub hP [0, 1]) (gDSub hD [0, 1] rfl) 0 11 rfl rfl rfl rfl rfl hl.1 rfl (lv_room (Nat.le_of_ble_eq_true rfl)) dX7_isBusy_3 ⟨Nat.le_of_ble_eq_true rfl, Nat.le_of_ble_eq_true rfl⟩) hP hD hS hA [0, 1] rfl (fun _ => rfl) rfl (fun r1 m_thrown_v1 H locs hw hP hD hS => ?_)
  have hP : va_P g.1 vwCl (List.flatten [kMo g a_mo a_ms a_mwas a_mtried a_msaved a_mpast a_mfar a_mdrift a_mline a_mtape a_mcommands m_changes m_thrown_v1 m_errorAt m_failedAt m_answer m_isSaved m_lined m_taped m_here m_commandMany, kAr g a_ms 130 m_s]) H := hP
  have hD : va_D A (List.flatten [kMo g a_mo a_ms a_mwas a_mtried a_msaved a_mpast a_mfar a_mdrift a_mline a_mtape a_mcommands m_changes m_thrown_v1 m_errorAt m_failedAt m_answer m_isSaved m_lined m_taped m_here m_commandMany, kAr g a_ms 130 m_s]) := hD
  refine lv_if_le (tgt := 13) hx hb dX7_isBusy_6 (by decide) (fun c_6 => ?_) (fun c_6 => ?_)
  · have hw := hw.1 c_6
    refine lv_iconst (v := 0) hx hb dX7_isBusy_13 (by decide) ?_
    subst hQ
    exact W.zret (ty := .boolean) hx hb hr (by decide) (gRi1 (c1 := m_thrown_v1) (wf := _) hA0 hsz hw hP hD hS) hS.2.2 dX7_isBusy_14
  · have hw := hw.2 c_6
    refine lv_iconst (v := 1) hx hb dX7_isBusy_9 (by decide) ?_
    refine lv_goto (tgt := 14) hx hb dX7_isBusy_10 (by decide) ?_
    subst hQ
    exact W.zret (ty := .boolean) hx hb hr (by decide) (gRi1 (c1 := m_thrown_v1) (wf := _) hA0 hsz hw hP hD hS) hS.2.2 dX7_isBusy_14
abbrev rmX7_junction : Room := { frames := 4, cells := 0, slots := 0, locals := 168 }
set_option maxRecDepth 20000 in
theorem inX7_junction_X7 : ∀ w ∈ wsX70, w ∈ wsX7_junction := by decide +kernel
set_option maxHeartbeats 4000000 in
set_option maxRecDepth 100000 in
theorem ctX7_junction (l : Launch) (g : GG) (a_mo : Nat → Nat) (a_ms : Nat → Nat) (a_mwas : Nat → Nat) (a_mtried : Nat → Nat) (a_msaved : Nat → Nat) (a_mpast : Nat → Nat) (a_mfar : Nat → Nat) (a_mdrift : Nat → Nat) (a_mline : Nat → Nat) (a_mtape : Nat → Nat) (a_mcommands : Nat → Nat) (sz : Nat) (m_changes : Int32) (m_thrown : Int32) (m_errorAt : Int32) (m_failedAt : Int32) (m_answer : Int32) (m_isSaved : Int32) (m_lined : Int32) (m_taped : Int32) (m_here : Int32) (m_commandMany : Int32) (m_s : Nat → Int32) (x1 : Int32) {post : Int32 → Int32 → Prop} (hw : wpX7_junction x1 m_thrown m_s post) :
    Met l yX7_junction wsX7_junction rmX7_junction (gPc g sz (List.flatten [kMo g a_mo a_ms a_mwas a_mtried a_msaved a_mpast a_mfar a_mdrift a_mline a_mtape a_mcommands m_changes m_thrown m_errorAt m_failedAt m_answer m_isSaved m_lined m_taped m_here m_commandMany, kAr g a_ms 130 m_s]) [.ref (a_mo 0), .int x1]) (gQi1 post (fun u1 => gB g (List.flatten [kMo g a_mo a_ms a_mwas a_mtried a_msaved a_mpast a_mfar a_mdrift a_mline a_mtape a_mcommands m_changes m_thrown m_errorAt m_failedAt m_answer m_isSaved m_lined m_taped m_here m_commandMany, kAr g a_ms 130 m_s]) sz (List.flatten [kMo g a_mo a_ms a_mwas a_mtried a_msaved a_mpast a_mfar a_mdrift a_mline a_mtape a_mcommands m_changes u1 m_errorAt m_failedAt m_answer m_isSaved m_lined m_taped m_here m_commandMany, kAr g a_ms 130 m_s])) (va_A (List.flatten [kMo g a_mo a_ms a_mwas a_mtried a_msaved a_mpast a_mfar a_mdrift a_mline a_mtape a_mcommands m_changes m_thrown m_errorAt m_failedAt m_answer m_isSaved m_lined m_taped m_here m_commandMany, kAr g a_ms 130 m_s]) sz)) 0 0 (va_A (List.flatten [kMo g a_mo a_ms a_mwas a_mtried a_msaved a_mpast a_mfar a_mdrift a_mline a_mtape a_mcommands m_changes m_thrown m_errorAt m_failedAt m_answer m_isSaved m_lined m_taped m_here m_commandMany, kAr g a_ms 130 m_s]) sz) := by
  refine gOf (cc := cX7_junction) (maxL := 2) (ret := (some .int)) (by decide) rfl (Nat.le_of_ble_eq_true rfl) ?_
  intro p e s m below meth c ls Q A hQ hx hb hr hml hts hown hlocks hE hA0 hsz hP hD hA hS hl
  have hl : lv_has ls 2 [(0, .ref (a_mo 0)), (1, .int x1)] := hl
  refine lv_aload_n hx hb dX7_junction_0 rfl (lv_at hl 0 rfl) ?_
  refine lv_iload_n hx hb dX7_junction_1 rfl (lv_at hl 1 rfl) ?_
  refine lv_iconst (v := 0) hx hb dX7_junction_2 (by decide) ?_
  refine gCi1 (gRunV (As := [.int x1, .int 0]) (rest := []) ⟨hx, hb, hml, hown, hts⟩ (ctX7_tellsPlough l g a_mo a_ms a_mwas a_mtried a_msaved a_mpast a_mfar a_mdrift a_mline a_mtape a_mcommands _ m_changes m_thrown m_errorAt m_failedAt m_answer m_isSaved m_lined m_taped m_here m_commandMany m_s x1 0 hw) (cwV 2 hts gX7_junction_X7_tellsPlough rfl rfl rfl (by decide +kernel) ⟨Nat.le_of_ble_eq_true rfl, Nat.le_of_ble_eq_true rfl⟩) hE (gSub hP [0, 1]) (gDSub hD [0, 1] rfl) 0 11 rfl rfl rfl rfl rfl hl.1 rfl (lv_room (Nat.le_of_ble_eq_true rfl)) dX7_junction_3 ⟨Nat.le_of_ble_eq_true rfl, Nat.le_of_ble_eq_true rfl⟩) hP hD hS hA [0, 1] rfl (fun _ => rfl) rfl (fun r1 m_thrown_v1 H locs hw hP hD hS => ?_)
  have hP : va_P g.1 vwCl (List.flatten [kMo g a_mo a_ms a_mwas a_mtried a_msaved a_mpast a_mfar a_mdrift a_mline a_mtape a_mcommands m_changes m_thrown_v1 m_errorAt m_failedAt m_answer m_isSaved m_lined m_taped m_here m_commandMany, kAr g a_ms 130 m_s]) H := hP
  have hD : va_D A (List.flatten [kMo g a_mo a_ms a_mwas a_mtried a_msaved a_mpast a_mfar a_mdrift a_mline a_mtape a_mcommands m_changes m_thrown_v1 m_errorAt m_failedAt m_answer m_isSaved m_lined m_taped m_here m_commandMany, kAr g a_ms 130 m_s]) := hD
  subst hQ
  exact W.iret hx hb hr (gRi1 (c1 := m_thrown_v1) (wf := _) hA0 hsz hw hP hD hS) hS.2.2 dX7_junction_6
abbrev rmX7_currentStreet : Room := { frames := 3, cells := 0, slots := 0, locals := 145 }
set_option maxRecDepth 20000 in
theorem inX7_currentStreet_X7 : ∀ w ∈ wsX70, w ∈ wsX7_currentStreet := by decide +kernel
set_option maxHeartbeats 4000000 in
set_option maxRecDepth 100000 in
theorem ctX7_currentStreet (l : Launch) (g : GG) (a_mo : Nat → Nat) (a_ms : Nat → Nat) (a_mwas : Nat → Nat) (a_mtried : Nat → Nat) (a_msaved : Nat → Nat) (a_mpast : Nat → Nat) (a_mfar : Nat → Nat) (a_mdrift : Nat → Nat) (a_mline : Nat → Nat) (a_mtape : Nat → Nat) (a_mcommands : Nat → Nat) (sz : Nat) (m_changes : Int32) (m_thrown : Int32) (m_errorAt : Int32) (m_failedAt : Int32) (m_answer : Int32) (m_isSaved : Int32) (m_lined : Int32) (m_taped : Int32) (m_here : Int32) (m_commandMany : Int32) (m_s : Nat → Int32) (x1 : Int32) {post : Int32 → Int32 → Prop} (hw : wpX7_currentStreet x1 m_thrown m_s post) :
    Met l yX7_currentStreet wsX7_currentStreet rmX7_currentStreet (gPc g sz (List.flatten [kMo g a_mo a_ms a_mwas a_mtried a_msaved a_mpast a_mfar a_mdrift a_mline a_mtape a_mcommands m_changes m_thrown m_errorAt m_failedAt m_answer m_isSaved m_lined m_taped m_here m_commandMany, kAr g a_ms 130 m_s]) [.ref (a_mo 0), .int x1]) (gQi1 post (fun u1 => gB g (List.flatten [kMo g a_mo a_ms a_mwas a_mtried a_msaved a_mpast a_mfar a_mdrift a_mline a_mtape a_mcommands m_changes m_thrown m_errorAt m_failedAt m_answer m_isSaved m_lined m_taped m_here m_commandMany, kAr g a_ms 130 m_s]) sz (List.flatten [kMo g a_mo a_ms a_mwas a_mtried a_msaved a_mpast a_mfar a_mdrift a_mline a_mtape a_mcommands m_changes u1 m_errorAt m_failedAt m_answer m_isSaved m_lined m_taped m_here m_commandMany, kAr g a_ms 130 m_s])) (va_A (List.flatten [kMo g a_mo a_ms a_mwas a_mtried a_msaved a_mpast a_mfar a_mdrift a_mline a_mtape a_mcommands m_changes m_thrown m_errorAt m_failedAt m_answer m_isSaved m_lined m_taped m_here m_commandMany, kAr g a_ms 130 m_s]) sz)) 0 0 (va_A (List.flatten [kMo g a_mo a_ms a_mwas a_mtried a_msaved a_mpast a_mfar a_mdrift a_mline a_mtape a_mcommands m_changes m_thrown m_errorAt m_failedAt m_answer m_isSaved m_lined m_taped m_here m_commandMany, kAr g a_ms 130 m_s]) sz) := by
  refine gOf (cc := cX7_currentStreet) (maxL := 2) (ret := (some .int)) (by decide) rfl (Nat.le_of_ble_eq_true rfl) ?_
  intro p e s m below meth c ls Q A hQ hx hb hr hml hts hown hlocks hE hA0 hsz hP hD hA hS hl
  have hl : lv_has ls 2 [(0, .ref (a_mo 0)), (1, .int x1)] := hl
  have J36 : ∀ (z1_36 : Int32) (m_thrown_36 : Int32) (H : Heap) (locs : List Loc) (ls : Array Slot), wpX7_currentStreet_L36 x1 m_s post z1_36 m_thrown_36 → va_P g.1 vwCl (List.flatten [kMo g a_mo a_ms a_mwas a_mtried a_msaved a_mpast a_mfar a_mdrift a_mline a_mtape a_mcommands m_changes m_thrown_36 m_errorAt m_failedAt m_answer m_isSaved m_lined m_taped m_here m_commandMany, kAr g a_ms 130 m_s]) H → va_D A (List.flatten [kMo g a_mo a_ms a_mwas a_mtried a_msaved a_mpast a_mfar a_mdrift a_mline a_mtape a_mcommands m_changes m_thrown_36 m_errorAt m_failedAt m_answer m_isSaved m_lined m_taped m_here m_commandMany, kAr g a_ms 130 m_s]) → va_S A s.heap H locs → lv_has ls 2 [(0, .ref (a_mo 0)), (1, .int x1)] → W p l e rmX7_currentStreet s m (([.ref (a_mo 0), .int x1] : List Value).toArray) below meth c H locs 0 0 Q (F0 m 36 ls [.int z1_36, .ref (a_mo 0)]) := by
    intro z1_36 m_thrown_36 H locs ls hw hP hD hS hl
    refine lv_iconst (v := 2) hx hb dX7_currentStreet_36 (by decide) ?_
    refine gCi1 (gRunV (As := [.int z1_36, .int 2]) (rest := []) ⟨hx, hb, hml, hown, hts⟩ (ctX7_isThrown l g a_mo a_ms a_mwas a_mtried a_msaved a_mpast a_mfar a_mdrift a_mline a_mtape a_mcommands _ m_changes m_thrown_36 m_errorAt m_failedAt m_answer m_isSaved m_lined m_taped m_here m_commandMany z1_36 2 hw) (cwV 2 hts gX7_currentStreet_X7_isThrown rfl rfl rfl (by decide +kernel) ⟨Nat.le_of_ble_eq_true rfl, Nat.le_of_ble_eq_true rfl⟩) hE (gSub hP [0]) (gDSub hD [0] rfl) 0 11 rfl rfl rfl rfl rfl hl.1 rfl (lv_room (Nat.le_of_ble_eq_true rfl)) dX7_currentStreet_37 ⟨Nat.le_of_ble_eq_true rfl, Nat.le_of_ble_eq_true rfl⟩) hP hD hS hA [0] rfl (fun _ => rfl) rfl (fun r4 m_thrown_v4 H locs hw hP hD hS => ?_)
    have hP : va_P g.1 vwCl (List.flatten [kMo g a_mo a_ms a_mwas a_mtried a_msaved a_mpast a_mfar a_mdrift a_mline a_mtape a_mcommands m_changes m_thrown_v4 m_errorAt m_failedAt m_answer m_isSaved m_lined m_taped m_here m_commandMany, kAr g a_ms 130 m_s]) H := hP
    have hD : va_D A (List.flatten [kMo g a_mo a_ms a_mwas a_mtried a_msaved a_mpast a_mfar a_mdrift a_mline a_mtape a_mcommands m_changes m_thrown_v4 m_errorAt m_failedAt m_answer m_isSaved m_lined m_taped m_here m_commandMany, kAr g a_ms 130 m_s]) := hD
    refine lv_if_eq (tgt := 47) hx hb dX7_currentStreet_40 (by decide) (fun c_40 => ?_) (fun c_40 => ?_)
    · have hw := hw.1 c_40
      refine lv_aload_n hx hb dX7_currentStreet_47 rfl (lv_at hl 0 rfl) ?_
      refine lv_iload_n hx hb dX7_currentStreet_48 rfl (lv_at hl 1 rfl) ?_
      refine lv_iconst (v := 2) hx hb dX7_currentStreet_49 (by decide) ?_
      refine gCi0 (gRunV (As := [.int x1, .int 2]) (rest := []) ⟨hx, hb, hml, hown, hts⟩ (ctX7_ofPlough l g a_mo a_ms a_mwas a_mtried a_msaved a_mpast a_mfar a_mdrift a_mline a_mtape a_mcommands _ m_changes m_thrown_v4 m_errorAt m_failedAt m_answer m_isSaved m_lined m_taped m_here m_commandMany m_s x1 2 hw) (cwV 2 hts gX7_currentStreet_X7_ofPlough rfl rfl rfl (by decide +kernel) ⟨Nat.le_of_ble_eq_true rfl, Nat.le_of_ble_eq_true rfl⟩) hE (gSub hP [0, 1]) (gDSub hD [0, 1] rfl) 0 11 rfl rfl rfl rfl rfl hl.1 rfl (lv_room (Nat.le_of_ble_eq_true rfl)) dX7_currentStreet_50 ⟨Nat.le_of_ble_eq_true rfl, Nat.le_of_ble_eq_true rfl⟩) hP hD hS hA [0, 1] rfl rfl rfl (fun r5 H locs hw hP hD hS => ?_)
      have hP : va_P g.1 vwCl (List.flatten [kMo g a_mo a_ms a_mwas a_mtried a_msaved a_mpast a_mfar a_mdrift a_mline a_mtape a_mcommands m_changes m_thrown_v4 m_errorAt m_failedAt m_answer m_isSaved m_lined m_taped m_here m_commandMany, kAr g a_ms 130 m_s]) H := hP
      have hD : va_D A (List.flatten [kMo g a_mo a_ms a_mwas a_mtried a_msaved a_mpast a_mfar a_mdrift a_mline a_mtape a_mcommands m_changes m_thrown_v4 m_errorAt m_failedAt m_answer m_isSaved m_lined m_taped m_here m_commandMany, kAr g a_ms 130 m_s]) := hD
      subst hQ
      exact W.iret hx hb hr (gRi1 (c1 := m_thrown_v4) (wf := _) hA0 hsz hw hP hD hS) hS.2.2 dX7_currentStreet_53
    · have hw := hw.2 c_40
      refine lv_iconst (v := 0) hx hb dX7_currentStreet_43 (by decide) ?_
      refine lv_goto (tgt := 53) hx hb dX7_currentStreet_44 (by decide) ?_
      subst hQ
      exact W.iret hx hb hr (gRi1 (c1 := m_thrown_v4) (wf := _) hA0 hsz hw hP hD hS) hS.2.2 dX7_currentStreet_53
  have J14 : ∀ (z1_14 : Int32) (m_thrown_14 : Int32) (H : Heap) (locs : List Loc) (ls : Array Slot), wpX7_currentStreet_L14 x1 m_s post z1_14 m_thrown_14 → va_P g.1 vwCl (List.flatten [kMo g a_mo a_ms a_mwas a_mtried a_msaved a_mpast a_mfar a_mdrift a_mline a_mtape a_mcommands m_changes m_thrown_14 m_errorAt m_failedAt m_answer m_isSaved m_lined m_taped m_here m_commandMany, kAr g a_ms 130 m_s]) H → va_D A (List.flatten [kMo g a_mo a_ms a_mwas a_mtried a_msaved a_mpast a_mfar a_mdrift a_mline a_mtape a_mcommands m_changes m_thrown_14 m_errorAt m_failedAt m_answer m_isSaved m_lined m_taped m_here m_commandMany, kAr g a_ms 130 m_s]) → va_S A s.heap H locs → lv_has ls 2 [(0, .ref (a_mo 0)), (1, .int x1)] → W p l e rmX7_currentStreet s m (([.ref (a_mo 0), .int x1] : List Value).toArray) below meth c H locs 0 0 Q (F0 m 14 ls [.int z1_14, .ref (a_mo 0)]) := by
    intro z1_14 m_thrown_14 H locs ls hw hP hD hS hl
    refine lv_iconst (v := 1) hx hb dX7_currentStreet_14 (by decide) ?_
    refine gCi1 (gRunV (As := [.int z1_14, .int 1]) (rest := []) ⟨hx, hb, hml, hown, hts⟩ (ctX7_isThrown l g a_mo a_ms a_mwas a_mtried a_msaved a_mpast a_mfar a_mdrift a_mline a_mtape a_mcommands _ m_changes m_thrown_14 m_errorAt m_failedAt m_answer m_isSaved m_lined m_taped m_here m_commandMany z1_14 1 hw) (cwV 2 hts gX7_currentStreet_X7_isThrown rfl rfl rfl (by decide +kernel) ⟨Nat.le_of_ble_eq_true rfl, Nat.le_of_ble_eq_true rfl⟩) hE (gSub hP [0]) (gDSub hD [0] rfl) 0 11 rfl rfl rfl rfl rfl hl.1 rfl (lv_room (Nat.le_of_ble_eq_true rfl)) dX7_currentStreet_15 ⟨Nat.le_of_ble_eq_true rfl, Nat.le_of_ble_eq_true rfl⟩) hP hD hS hA [0] rfl (fun _ => rfl) rfl (fun r2 m_thrown_v2 H locs hw hP hD hS => ?_)
    have hP : va_P g.1 vwCl (List.flatten [kMo g a_mo a_ms a_mwas a_mtried a_msaved a_mpast a_mfar a_mdrift a_mline a_mtape a_mcommands m_changes m_thrown_v2 m_errorAt m_failedAt m_answer m_isSaved m_lined m_taped m_here m_commandMany, kAr g a_ms 130 m_s]) H := hP
    have hD : va_D A (List.flatten [kMo g a_mo a_ms a_mwas a_mtried a_msaved a_mpast a_mfar a_mdrift a_mline a_mtape a_mcommands m_changes m_thrown_v2 m_errorAt m_failedAt m_answer m_isSaved m_lined m_taped m_here m_commandMany, kAr g a_ms 130 m_s]) := hD
    refine lv_if_ne (tgt := 43) hx hb dX7_currentStreet_18 (by decide) (fun c_18 => ?_) (fun c_18 => ?_)
    · have hw := hw.1 c_18
      refine lv_iconst (v := 0) hx hb dX7_currentStreet_43 (by decide) ?_
      refine lv_goto (tgt := 53) hx hb dX7_currentStreet_44 (by decide) ?_
      subst hQ
      exact W.iret hx hb hr (gRi1 (c1 := m_thrown_v2) (wf := _) hA0 hsz hw hP hD hS) hS.2.2 dX7_currentStreet_53
    · have hw := hw.2 c_18
      refine lv_aload_n hx hb dX7_currentStreet_21 rfl (lv_at hl 0 rfl) ?_
      refine lv_aload_n hx hb dX7_currentStreet_22 rfl (lv_at hl 0 rfl) ?_
      refine lv_iload_n hx hb dX7_currentStreet_23 rfl (lv_at hl 1 rfl) ?_
      refine lv_iconst (v := 1) hx hb dX7_currentStreet_24 (by decide) ?_
      refine gCi0 (gRunV (As := [.int x1, .int 1]) (rest := [.ref (a_mo 0)]) ⟨hx, hb, hml, hown, hts⟩ (ctX7_ofPlough l g a_mo a_ms a_mwas a_mtried a_msaved a_mpast a_mfar a_mdrift a_mline a_mtape a_mcommands _ m_changes m_thrown_v2 m_errorAt m_failedAt m_answer m_isSaved m_lined m_taped m_here m_commandMany m_s x1 1 hw) (cwV 2 hts gX7_currentStreet_X7_ofPlough rfl rfl rfl (by decide +kernel) ⟨Nat.le_of_ble_eq_true rfl, Nat.le_of_ble_eq_true rfl⟩) hE (gSub hP [0, 1]) (gDSub hD [0, 1] rfl) 0 11 rfl rfl rfl rfl rfl hl.1 rfl (lv_room (Nat.le_of_ble_eq_true rfl)) dX7_currentStreet_25 ⟨Nat.le_of_ble_eq_true rfl, Nat.le_of_ble_eq_true rfl⟩) hP hD hS hA [0, 1] rfl rfl rfl (fun r3 H locs hw hP hD hS => ?_)
      have hP : va_P g.1 vwCl (List.flatten [kMo g a_mo a_ms a_mwas a_mtried a_msaved a_mpast a_mfar a_mdrift a_mline a_mtape a_mcommands m_changes m_thrown_v2 m_errorAt m_failedAt m_answer m_isSaved m_lined m_taped m_here m_commandMany, kAr g a_ms 130 m_s]) H := hP
      have hD : va_D A (List.flatten [kMo g a_mo a_ms a_mwas a_mtried a_msaved a_mpast a_mfar a_mdrift a_mline a_mtape a_mcommands m_changes m_thrown_v2 m_errorAt m_failedAt m_answer m_isSaved m_lined m_taped m_here m_commandMany, kAr g a_ms 130 m_s]) := hD
      refine lv_if_ne (tgt := 35) hx hb dX7_currentStreet_28 (by decide) (fun c_28 => ?_) (fun c_28 => ?_)
      · have hw := hw.1 c_28
        refine lv_iconst (v := 0) hx hb dX7_currentStreet_35 (by decide) ?_
        exact J36 0 m_thrown_v2 _ _ _ hw hP hD hS (lv_sub hl [0, 1] rfl)
      · have hw := hw.2 c_28
        refine lv_iconst (v := 1) hx hb dX7_currentStreet_31 (by decide) ?_
        refine lv_goto (tgt := 36) hx hb dX7_currentStreet_32 (by decide) ?_
        exact J36 1 m_thrown_v2 _ _ _ hw hP hD hS (lv_sub hl [0, 1] rfl)
  refine lv_aload_n hx hb dX7_currentStreet_0 rfl (lv_at hl 0 rfl) ?_
  refine lv_aload_n hx hb dX7_currentStreet_1 rfl (lv_at hl 0 rfl) ?_
  refine lv_iload_n hx hb dX7_currentStreet_2 rfl (lv_at hl 1 rfl) ?_
  refine gCi0 (gRunV (As := [.int x1]) (rest := [.ref (a_mo 0)]) ⟨hx, hb, hml, hown, hts⟩ (ctX7_isPlough l g a_mo a_ms a_mwas a_mtried a_msaved a_mpast a_mfar a_mdrift a_mline a_mtape a_mcommands _ m_changes m_thrown m_errorAt m_failedAt m_answer m_isSaved m_lined m_taped m_here m_commandMany m_s x1 hw) (cwV 1 hts gX7_currentStreet_X7_isPlough rfl rfl rfl (by decide +kernel) ⟨Nat.le_of_ble_eq_true rfl, Nat.le_of_ble_eq_true rfl⟩) hE (gSub hP [0, 1]) (gDSub hD [0, 1] rfl) 0 11 rfl rfl rfl rfl rfl hl.1 rfl (lv_room (Nat.le_of_ble_eq_true rfl)) dX7_currentStreet_3 ⟨Nat.le_of_ble_eq_true rfl, Nat.le_of_ble_eq_true rfl⟩) hP hD hS hA [0, 1] rfl rfl rfl (fun r1 H locs hw hP hD hS => ?_)
  have hP : va_P g.1 vwCl (List.flatten [kMo g a_mo a_ms a_mwas a_mtried a_msaved a_mpast a_mfar a_mdrift a_mline a_mtape a_mcommands m_changes m_thrown m_errorAt m_failedAt m_answer m_isSaved m_lined m_taped m_here m_commandMany, kAr g a_ms 130 m_s]) H := hP
  have hD : va_D A (List.flatten [kMo g a_mo a_ms a_mwas a_mtried a_msaved a_mpast a_mfar a_mdrift a_mline a_mtape a_mcommands m_changes m_thrown m_errorAt m_failedAt m_answer m_isSaved m_lined m_taped m_here m_commandMany, kAr g a_ms 130 m_s]) := hD
  refine lv_if_ne (tgt := 13) hx hb dX7_currentStreet_6 (by decide) (fun c_6 => ?_) (fun c_6 => ?_)
  · have hw := hw.1 c_6
    refine lv_iconst (v := 0) hx hb dX7_currentStreet_13 (by decide) ?_
    exact J14 0 m_thrown _ _ _ hw hP hD hS (lv_sub hl [0, 1] rfl)
  · have hw := hw.2 c_6
    refine lv_iconst (v := 1) hx hb dX7_currentStreet_9 (by decide) ?_
    refine lv_goto (tgt := 14) hx hb dX7_currentStreet_10 (by decide) ?_
    exact J14 1 m_thrown _ _ _ hw hP hD hS (lv_sub hl [0, 1] rfl)
abbrev rmX7_busyMinutes : Room := { frames := 4, cells := 0, slots := 0, locals := 168 }
set_option maxRecDepth 20000 in
theorem inX7_busyMinutes_X7 : ∀ w ∈ wsX70, w ∈ wsX7_busyMinutes := by decide +kernel
set_option maxHeartbeats 4000000 in
set_option maxRecDepth 100000 in
theorem ctX7_busyMinutes (l : Launch) (g : GG) (a_mo : Nat → Nat) (a_ms : Nat → Nat) (a_mwas : Nat → Nat) (a_mtried : Nat → Nat) (a_msaved : Nat → Nat) (a_mpast : Nat → Nat) (a_mfar : Nat → Nat) (a_mdrift : Nat → Nat) (a_mline : Nat → Nat) (a_mtape : Nat → Nat) (a_mcommands : Nat → Nat) (sz : Nat) (m_changes : Int32) (m_thrown : Int32) (m_errorAt : Int32) (m_failedAt : Int32) (m_answer : Int32) (m_isSaved : Int32) (m_lined : Int32) (m_taped : Int32) (m_here : Int32) (m_commandMany : Int32) (m_s : Nat → Int32) (x1 : Int32) {post : Int32 → Int32 → Prop} (hw : wpX7_busyMinutes x1 m_thrown m_s post) :
    Met l yX7_busyMinutes wsX7_busyMinutes rmX7_busyMinutes (gPc g sz (List.flatten [kMo g a_mo a_ms a_mwas a_mtried a_msaved a_mpast a_mfar a_mdrift a_mline a_mtape a_mcommands m_changes m_thrown m_errorAt m_failedAt m_answer m_isSaved m_lined m_taped m_here m_commandMany, kAr g a_ms 130 m_s]) [.ref (a_mo 0), .int x1]) (gQi1 post (fun u1 => gB g (List.flatten [kMo g a_mo a_ms a_mwas a_mtried a_msaved a_mpast a_mfar a_mdrift a_mline a_mtape a_mcommands m_changes m_thrown m_errorAt m_failedAt m_answer m_isSaved m_lined m_taped m_here m_commandMany, kAr g a_ms 130 m_s]) sz (List.flatten [kMo g a_mo a_ms a_mwas a_mtried a_msaved a_mpast a_mfar a_mdrift a_mline a_mtape a_mcommands m_changes u1 m_errorAt m_failedAt m_answer m_isSaved m_lined m_taped m_here m_commandMany, kAr g a_ms 130 m_s])) (va_A (List.flatten [kMo g a_mo a_ms a_mwas a_mtried a_msaved a_mpast a_mfar a_mdrift a_mline a_mtape a_mcommands m_changes m_thrown m_errorAt m_failedAt m_answer m_isSaved m_lined m_taped m_here m_commandMany, kAr g a_ms 130 m_s]) sz)) 0 0 (va_A (List.flatten [kMo g a_mo a_ms a_mwas a_mtried a_msaved a_mpast a_mfar a_mdrift a_mline a_mtape a_mcommands m_changes m_thrown m_errorAt m_failedAt m_answer m_isSaved m_lined m_taped m_here m_commandMany, kAr g a_ms 130 m_s]) sz) := by
  refine gOf (cc := cX7_busyMinutes) (maxL := 2) (ret := (some .int)) (by decide) rfl (Nat.le_of_ble_eq_true rfl) ?_
  intro p e s m below meth c ls Q A hQ hx hb hr hml hts hown hlocks hE hA0 hsz hP hD hA hS hl
  have hl : lv_has ls 2 [(0, .ref (a_mo 0)), (1, .int x1)] := hl
  refine lv_aload_n hx hb dX7_busyMinutes_0 rfl (lv_at hl 0 rfl) ?_
  refine lv_iload_n hx hb dX7_busyMinutes_1 rfl (lv_at hl 1 rfl) ?_
  refine lv_iconst (v := 1) hx hb dX7_busyMinutes_2 (by decide) ?_
  refine gCi1 (gRunV (As := [.int x1, .int 1]) (rest := []) ⟨hx, hb, hml, hown, hts⟩ (ctX7_tellsPlough l g a_mo a_ms a_mwas a_mtried a_msaved a_mpast a_mfar a_mdrift a_mline a_mtape a_mcommands _ m_changes m_thrown m_errorAt m_failedAt m_answer m_isSaved m_lined m_taped m_here m_commandMany m_s x1 1 hw) (cwV 2 hts gX7_busyMinutes_X7_tellsPlough rfl rfl rfl (by decide +kernel) ⟨Nat.le_of_ble_eq_true rfl, Nat.le_of_ble_eq_true rfl⟩) hE (gSub hP [0, 1]) (gDSub hD [0, 1] rfl) 0 11 rfl rfl rfl rfl rfl hl.1 rfl (lv_room (Nat.le_of_ble_eq_true rfl)) dX7_busyMinutes_3 ⟨Nat.le_of_ble_eq_true rfl, Nat.le_of_ble_eq_true rfl⟩) hP hD hS hA [0, 1] rfl (fun _ => rfl) rfl (fun r1 m_thrown_v1 H locs hw hP hD hS => ?_)
  have hP : va_P g.1 vwCl (List.flatten [kMo g a_mo a_ms a_mwas a_mtried a_msaved a_mpast a_mfar a_mdrift a_mline a_mtape a_mcommands m_changes m_thrown_v1 m_errorAt m_failedAt m_answer m_isSaved m_lined m_taped m_here m_commandMany, kAr g a_ms 130 m_s]) H := hP
  have hD : va_D A (List.flatten [kMo g a_mo a_ms a_mwas a_mtried a_msaved a_mpast a_mfar a_mdrift a_mline a_mtape a_mcommands m_changes m_thrown_v1 m_errorAt m_failedAt m_answer m_isSaved m_lined m_taped m_here m_commandMany, kAr g a_ms 130 m_s]) := hD
  subst hQ
  exact W.iret hx hb hr (gRi1 (c1 := m_thrown_v1) (wf := _) hA0 hsz hw hP hD hS) hS.2.2 dX7_busyMinutes_6
abbrev rmX7_queueLength : Room := { frames := 4, cells := 0, slots := 0, locals := 168 }
set_option maxRecDepth 20000 in
theorem inX7_queueLength_X7 : ∀ w ∈ wsX70, w ∈ wsX7_queueLength := by decide +kernel
set_option maxHeartbeats 4000000 in
set_option maxRecDepth 100000 in
theorem ctX7_queueLength (l : Launch) (g : GG) (a_mo : Nat → Nat) (a_ms : Nat → Nat) (a_mwas : Nat → Nat) (a_mtried : Nat → Nat) (a_msaved : Nat → Nat) (a_mpast : Nat → Nat) (a_mfar : Nat → Nat) (a_mdrift : Nat → Nat) (a_mline : Nat → Nat) (a_mtape : Nat → Nat) (a_mcommands : Nat → Nat) (sz : Nat) (m_changes : Int32) (m_thrown : Int32) (m_errorAt : Int32) (m_failedAt : Int32) (m_answer : Int32) (m_isSaved : Int32) (m_lined : Int32) (m_taped : Int32) (m_here : Int32) (m_commandMany : Int32) (m_s : Nat → Int32) (x1 : Int32) {post : Int32 → Int32 → Prop} (hw : wpX7_queueLength x1 m_thrown m_s post) :
    Met l yX7_queueLength wsX7_queueLength rmX7_queueLength (gPc g sz (List.flatten [kMo g a_mo a_ms a_mwas a_mtried a_msaved a_mpast a_mfar a_mdrift a_mline a_mtape a_mcommands m_changes m_thrown m_errorAt m_failedAt m_answer m_isSaved m_lined m_taped m_here m_commandMany, kAr g a_ms 130 m_s]) [.ref (a_mo 0), .int x1]) (gQi1 post (fun u1 => gB g (List.flatten [kMo g a_mo a_ms a_mwas a_mtried a_msaved a_mpast a_mfar a_mdrift a_mline a_mtape a_mcommands m_changes m_thrown m_errorAt m_failedAt m_answer m_isSaved m_lined m_taped m_here m_commandMany, kAr g a_ms 130 m_s]) sz (List.flatten [kMo g a_mo a_ms a_mwas a_mtried a_msaved a_mpast a_mfar a_mdrift a_mline a_mtape a_mcommands m_changes u1 m_errorAt m_failedAt m_answer m_isSaved m_lined m_taped m_here m_commandMany, kAr g a_ms 130 m_s])) (va_A (List.flatten [kMo g a_mo a_ms a_mwas a_mtried a_msaved a_mpast a_mfar a_mdrift a_mline a_mtape a_mcommands m_changes m_thrown m_errorAt m_failedAt m_answer m_isSaved m_lined m_taped m_here m_commandMany, kAr g a_ms 130 m_s]) sz)) 0 0 (va_A (List.flatten [kMo g a_mo a_ms a_mwas a_mtried a_msaved a_mpast a_mfar a_mdrift a_mline a_mtape a_mcommands m_changes m_thrown m_errorAt m_failedAt m_answer m_isSaved m_lined m_taped m_here m_commandMany, kAr g a_ms 130 m_s]) sz) := by
  refine gOf (cc := cX7_queueLength) (maxL := 2) (ret := (some .int)) (by decide) rfl (Nat.le_of_ble_eq_true rfl) ?_
  intro p e s m below meth c ls Q A hQ hx hb hr hml hts hown hlocks hE hA0 hsz hP hD hA hS hl
  have hl : lv_has ls 2 [(0, .ref (a_mo 0)), (1, .int x1)] := hl
  refine lv_aload_n hx hb dX7_queueLength_0 rfl (lv_at hl 0 rfl) ?_
  refine lv_iload_n hx hb dX7_queueLength_1 rfl (lv_at hl 1 rfl) ?_
  refine lv_iconst (v := 3) hx hb dX7_queueLength_2 (by decide) ?_
  refine gCi1 (gRunV (As := [.int x1, .int 3]) (rest := []) ⟨hx, hb, hml, hown, hts⟩ (ctX7_tellsPlough l g a_mo a_ms a_mwas a_mtried a_msaved a_mpast a_mfar a_mdrift a_mline a_mtape a_mcommands _ m_changes m_thrown m_errorAt m_failedAt m_answer m_isSaved m_lined m_taped m_here m_commandMany m_s x1 3 hw) (cwV 2 hts gX7_queueLength_X7_tellsPlough rfl rfl rfl (by decide +kernel) ⟨Nat.le_of_ble_eq_true rfl, Nat.le_of_ble_eq_true rfl⟩) hE (gSub hP [0, 1]) (gDSub hD [0, 1] rfl) 0 11 rfl rfl rfl rfl rfl hl.1 rfl (lv_room (Nat.le_of_ble_eq_true rfl)) dX7_queueLength_3 ⟨Nat.le_of_ble_eq_true rfl, Nat.le_of_ble_eq_true rfl⟩) hP hD hS hA [0, 1] rfl (fun _ => rfl) rfl (fun r1 m_thrown_v1 H locs hw hP hD hS => ?_)
  have hP : va_P g.1 vwCl (List.flatten [kMo g a_mo a_ms a_mwas a_mtried a_msaved a_mpast a_mfar a_mdrift a_mline a_mtape a_mcommands m_changes m_thrown_v1 m_errorAt m_failedAt m_answer m_isSaved m_lined m_taped m_here m_commandMany, kAr g a_ms 130 m_s]) H := hP
  have hD : va_D A (List.flatten [kMo g a_mo a_ms a_mwas a_mtried a_msaved a_mpast a_mfar a_mdrift a_mline a_mtape a_mcommands m_changes m_thrown_v1 m_errorAt m_failedAt m_answer m_isSaved m_lined m_taped m_here m_commandMany, kAr g a_ms 130 m_s]) := hD
  subst hQ
  exact W.iret hx hb hr (gRi1 (c1 := m_thrown_v1) (wf := _) hA0 hsz hw hP hD hS) hS.2.2 dX7_queueLength_6
abbrev rmX7_queuedStreet : Room := { frames := 3, cells := 0, slots := 0, locals := 145 }
set_option maxRecDepth 20000 in
theorem inX7_queuedStreet_X7 : ∀ w ∈ wsX70, w ∈ wsX7_queuedStreet := by decide +kernel
set_option maxHeartbeats 4000000 in
set_option maxRecDepth 100000 in
theorem ctX7_queuedStreet (l : Launch) (g : GG) (a_mo : Nat → Nat) (a_ms : Nat → Nat) (a_mwas : Nat → Nat) (a_mtried : Nat → Nat) (a_msaved : Nat → Nat) (a_mpast : Nat → Nat) (a_mfar : Nat → Nat) (a_mdrift : Nat → Nat) (a_mline : Nat → Nat) (a_mtape : Nat → Nat) (a_mcommands : Nat → Nat) (sz : Nat) (m_changes : Int32) (m_thrown : Int32) (m_errorAt : Int32) (m_failedAt : Int32) (m_answer : Int32) (m_isSaved : Int32) (m_lined : Int32) (m_taped : Int32) (m_here : Int32) (m_commandMany : Int32) (m_s : Nat → Int32) (x1 : Int32) (x2 : Int32) {post : Int32 → Int32 → Prop} (hw : wpX7_queuedStreet x1 x2 m_thrown m_s post) :
    Met l yX7_queuedStreet wsX7_queuedStreet rmX7_queuedStreet (gPc g sz (List.flatten [kMo g a_mo a_ms a_mwas a_mtried a_msaved a_mpast a_mfar a_mdrift a_mline a_mtape a_mcommands m_changes m_thrown m_errorAt m_failedAt m_answer m_isSaved m_lined m_taped m_here m_commandMany, kAr g a_ms 130 m_s]) [.ref (a_mo 0), .int x1, .int x2]) (gQi1 post (fun u1 => gB g (List.flatten [kMo g a_mo a_ms a_mwas a_mtried a_msaved a_mpast a_mfar a_mdrift a_mline a_mtape a_mcommands m_changes m_thrown m_errorAt m_failedAt m_answer m_isSaved m_lined m_taped m_here m_commandMany, kAr g a_ms 130 m_s]) sz (List.flatten [kMo g a_mo a_ms a_mwas a_mtried a_msaved a_mpast a_mfar a_mdrift a_mline a_mtape a_mcommands m_changes u1 m_errorAt m_failedAt m_answer m_isSaved m_lined m_taped m_here m_commandMany, kAr g a_ms 130 m_s])) (va_A (List.flatten [kMo g a_mo a_ms a_mwas a_mtried a_msaved a_mpast a_mfar a_mdrift a_mline a_mtape a_mcommands m_changes m_thrown m_errorAt m_failedAt m_answer m_isSaved m_lined m_taped m_here m_commandMany, kAr g a_ms 130 m_s]) sz)) 0 0 (va_A (List.flatten [kMo g a_mo a_ms a_mwas a_mtried a_msaved a_mpast a_mfar a_mdrift a_mline a_mtape a_mcommands m_changes m_thrown m_errorAt m_failedAt m_answer m_isSaved m_lined m_taped m_here m_commandMany, kAr g a_ms 130 m_s]) sz) := by
  refine gOf (cc := cX7_queuedStreet) (maxL := 3) (ret := (some .int)) (by decide) rfl (Nat.le_of_ble_eq_true rfl) ?_
  intro p e s m below meth c ls Q A hQ hx hb hr hml hts hown hlocks hE hA0 hsz hP hD hA hS hl
  have hl : lv_has ls 3 [(0, .ref (a_mo 0)), (1, .int x1), (2, .int x2)] := hl
  have J43 : ∀ (z1_43 : Int32) (m_thrown_43 : Int32) (H : Heap) (locs : List Loc) (ls : Array Slot), wpX7_queuedStreet_L43 x1 x2 m_s post z1_43 m_thrown_43 → va_P g.1 vwCl (List.flatten [kMo g a_mo a_ms a_mwas a_mtried a_msaved a_mpast a_mfar a_mdrift a_mline a_mtape a_mcommands m_changes m_thrown_43 m_errorAt m_failedAt m_answer m_isSaved m_lined m_taped m_here m_commandMany, kAr g a_ms 130 m_s]) H → va_D A (List.flatten [kMo g a_mo a_ms a_mwas a_mtried a_msaved a_mpast a_mfar a_mdrift a_mline a_mtape a_mcommands m_changes m_thrown_43 m_errorAt m_failedAt m_answer m_isSaved m_lined m_taped m_here m_commandMany, kAr g a_ms 130 m_s]) → va_S A s.heap H locs → lv_has ls 3 [(0, .ref (a_mo 0)), (1, .int x1), (2, .int x2)] → W p l e rmX7_queuedStreet s m (([.ref (a_mo 0), .int x1, .int x2] : List Value).toArray) below meth c H locs 0 0 Q (F0 m 43 ls [.int z1_43, .ref (a_mo 0)]) := by
    intro z1_43 m_thrown_43 H locs ls hw hP hD hS hl
    refine lv_iconst (v := 2) hx hb dX7_queuedStreet_43 (by decide) ?_
    refine gCi1 (gRunV (As := [.int z1_43, .int 2]) (rest := []) ⟨hx, hb, hml, hown, hts⟩ (ctX7_isThrown l g a_mo a_ms a_mwas a_mtried a_msaved a_mpast a_mfar a_mdrift a_mline a_mtape a_mcommands _ m_changes m_thrown_43 m_errorAt m_failedAt m_answer m_isSaved m_lined m_taped m_here m_commandMany z1_43 2 hw) (cwV 2 hts gX7_queuedStreet_X7_isThrown rfl rfl rfl (by decide +kernel) ⟨Nat.le_of_ble_eq_true rfl, Nat.le_of_ble_eq_true rfl⟩) hE (gSub hP [0]) (gDSub hD [0] rfl) 0 11 rfl rfl rfl rfl rfl hl.1 rfl (lv_room (Nat.le_of_ble_eq_true rfl)) dX7_queuedStreet_44 ⟨Nat.le_of_ble_eq_true rfl, Nat.le_of_ble_eq_true rfl⟩) hP hD hS hA [0] rfl (fun _ => rfl) rfl (fun r5 m_thrown_v5 H locs hw hP hD hS => ?_)
    have hP : va_P g.1 vwCl (List.flatten [kMo g a_mo a_ms a_mwas a_mtried a_msaved a_mpast a_mfar a_mdrift a_mline a_mtape a_mcommands m_changes m_thrown_v5 m_errorAt m_failedAt m_answer m_isSaved m_lined m_taped m_here m_commandMany, kAr g a_ms 130 m_s]) H := hP
    have hD : va_D A (List.flatten [kMo g a_mo a_ms a_mwas a_mtried a_msaved a_mpast a_mfar a_mdrift a_mline a_mtape a_mcommands m_changes m_thrown_v5 m_errorAt m_failedAt m_answer m_isSaved m_lined m_taped m_here m_commandMany, kAr g a_ms 130 m_s]) := hD
    refine lv_if_eq (tgt := 54) hx hb dX7_queuedStreet_47 (by decide) (fun c_47 => ?_) (fun c_47 => ?_)
    · have hw := hw.1 c_47
      refine lv_aload_n hx hb dX7_queuedStreet_54 rfl (lv_at hl 0 rfl) ?_
      refine lv_iload_n hx hb dX7_queuedStreet_55 rfl (lv_at hl 1 rfl) ?_
      refine lv_iconst (v := 4) hx hb dX7_queuedStreet_56 (by decide) ?_
      refine lv_iload_n hx hb dX7_queuedStreet_57 rfl (lv_at hl 2 rfl) ?_
      refine lv_iadd hx hb dX7_queuedStreet_58 ?_
      refine gCi0 (gRunV (As := [.int x1, .int (4 + x2)]) (rest := []) ⟨hx, hb, hml, hown, hts⟩ (ctX7_ofPlough l g a_mo a_ms a_mwas a_mtried a_msaved a_mpast a_mfar a_mdrift a_mline a_mtape a_mcommands _ m_changes m_thrown_v5 m_errorAt m_failedAt m_answer m_isSaved m_lined m_taped m_here m_commandMany m_s x1 (4 + x2) hw) (cwV 2 hts gX7_queuedStreet_X7_ofPlough rfl rfl rfl (by decide +kernel) ⟨Nat.le_of_ble_eq_true rfl, Nat.le_of_ble_eq_true rfl⟩) hE (gSub hP [0, 1]) (gDSub hD [0, 1] rfl) 0 11 rfl rfl rfl rfl rfl hl.1 rfl (lv_room (Nat.le_of_ble_eq_true rfl)) dX7_queuedStreet_59 ⟨Nat.le_of_ble_eq_true rfl, Nat.le_of_ble_eq_true rfl⟩) hP hD hS hA [0, 1] rfl rfl rfl (fun r6 H locs hw hP hD hS => ?_)
      have hP : va_P g.1 vwCl (List.flatten [kMo g a_mo a_ms a_mwas a_mtried a_msaved a_mpast a_mfar a_mdrift a_mline a_mtape a_mcommands m_changes m_thrown_v5 m_errorAt m_failedAt m_answer m_isSaved m_lined m_taped m_here m_commandMany, kAr g a_ms 130 m_s]) H := hP
      have hD : va_D A (List.flatten [kMo g a_mo a_ms a_mwas a_mtried a_msaved a_mpast a_mfar a_mdrift a_mline a_mtape a_mcommands m_changes m_thrown_v5 m_errorAt m_failedAt m_answer m_isSaved m_lined m_taped m_here m_commandMany, kAr g a_ms 130 m_s]) := hD
      subst hQ
      exact W.iret hx hb hr (gRi1 (c1 := m_thrown_v5) (wf := _) hA0 hsz hw hP hD hS) hS.2.2 dX7_queuedStreet_62
    · have hw := hw.2 c_47
      refine lv_iconst (v := 0) hx hb dX7_queuedStreet_50 (by decide) ?_
      refine lv_goto (tgt := 62) hx hb dX7_queuedStreet_51 (by decide) ?_
      subst hQ
      exact W.iret hx hb hr (gRi1 (c1 := m_thrown_v5) (wf := _) hA0 hsz hw hP hD hS) hS.2.2 dX7_queuedStreet_62
  have J14 : ∀ (z1_14 : Int32) (m_thrown_14 : Int32) (H : Heap) (locs : List Loc) (ls : Array Slot), wpX7_queuedStreet_L14 x1 x2 m_s post z1_14 m_thrown_14 → va_P g.1 vwCl (List.flatten [kMo g a_mo a_ms a_mwas a_mtried a_msaved a_mpast a_mfar a_mdrift a_mline a_mtape a_mcommands m_changes m_thrown_14 m_errorAt m_failedAt m_answer m_isSaved m_lined m_taped m_here m_commandMany, kAr g a_ms 130 m_s]) H → va_D A (List.flatten [kMo g a_mo a_ms a_mwas a_mtried a_msaved a_mpast a_mfar a_mdrift a_mline a_mtape a_mcommands m_changes m_thrown_14 m_errorAt m_failedAt m_answer m_isSaved m_lined m_taped m_here m_commandMany, kAr g a_ms 130 m_s]) → va_S A s.heap H locs → lv_has ls 3 [(0, .ref (a_mo 0)), (1, .int x1), (2, .int x2)] → W p l e rmX7_queuedStreet s m (([.ref (a_mo 0), .int x1, .int x2] : List Value).toArray) below meth c H locs 0 0 Q (F0 m 14 ls [.int z1_14, .ref (a_mo 0)]) := by
    intro z1_14 m_thrown_14 H locs ls hw hP hD hS hl
    refine lv_iconst (v := 1) hx hb dX7_queuedStreet_14 (by decide) ?_
    refine gCi1 (gRunV (As := [.int z1_14, .int 1]) (rest := []) ⟨hx, hb, hml, hown, hts⟩ (ctX7_isThrown l g a_mo a_ms a_mwas a_mtried a_msaved a_mpast a_mfar a_mdrift a_mline a_mtape a_mcommands _ m_changes m_thrown_14 m_errorAt m_failedAt m_answer m_isSaved m_lined m_taped m_here m_commandMany z1_14 1 hw) (cwV 2 hts gX7_queuedStreet_X7_isThrown rfl rfl rfl (by decide +kernel) ⟨Nat.le_of_ble_eq_true rfl, Nat.le_of_ble_eq_true rfl⟩) hE (gSub hP [0]) (gDSub hD [0] rfl) 0 11 rfl rfl rfl rfl rfl hl.1 rfl (lv_room (Nat.le_of_ble_eq_true rfl)) dX7_queuedStreet_15 ⟨Nat.le_of_ble_eq_true rfl, Nat.le_of_ble_eq_true rfl⟩) hP hD hS hA [0] rfl (fun _ => rfl) rfl (fun r2 m_thrown_v2 H locs hw hP hD hS => ?_)
    have hP : va_P g.1 vwCl (List.flatten [kMo g a_mo a_ms a_mwas a_mtried a_msaved a_mpast a_mfar a_mdrift a_mline a_mtape a_mcommands m_changes m_thrown_v2 m_errorAt m_failedAt m_answer m_isSaved m_lined m_taped m_here m_commandMany, kAr g a_ms 130 m_s]) H := hP
    have hD : va_D A (List.flatten [kMo g a_mo a_ms a_mwas a_mtried a_msaved a_mpast a_mfar a_mdrift a_mline a_mtape a_mcommands m_changes m_thrown_v2 m_errorAt m_failedAt m_answer m_isSaved m_lined m_taped m_here m_commandMany, kAr g a_ms 130 m_s]) := hD
    refine lv_if_ne (tgt := 50) hx hb dX7_queuedStreet_18 (by decide) (fun c_18 => ?_) (fun c_18 => ?_)
    · have hw := hw.1 c_18
      refine lv_iconst (v := 0) hx hb dX7_queuedStreet_50 (by decide) ?_
      refine lv_goto (tgt := 62) hx hb dX7_queuedStreet_51 (by decide) ?_
      subst hQ
      exact W.iret hx hb hr (gRi1 (c1 := m_thrown_v2) (wf := _) hA0 hsz hw hP hD hS) hS.2.2 dX7_queuedStreet_62
    · have hw := hw.2 c_18
      refine lv_aload_n hx hb dX7_queuedStreet_21 rfl (lv_at hl 0 rfl) ?_
      refine lv_iload_n hx hb dX7_queuedStreet_22 rfl (lv_at hl 2 rfl) ?_
      refine lv_iconst (v := 0) hx hb dX7_queuedStreet_23 (by decide) ?_
      refine lv_aload_n hx hb dX7_queuedStreet_24 rfl (lv_at hl 0 rfl) ?_
      refine lv_iload_n hx hb dX7_queuedStreet_25 rfl (lv_at hl 1 rfl) ?_
      refine lv_iconst (v := 3) hx hb dX7_queuedStreet_26 (by decide) ?_
      refine gCi0 (gRunV (As := [.int x1, .int 3]) (rest := [.int 0, .int x2, .ref (a_mo 0)]) ⟨hx, hb, hml, hown, hts⟩ (ctX7_ofPlough l g a_mo a_ms a_mwas a_mtried a_msaved a_mpast a_mfar a_mdrift a_mline a_mtape a_mcommands _ m_changes m_thrown_v2 m_errorAt m_failedAt m_answer m_isSaved m_lined m_taped m_here m_commandMany m_s x1 3 hw) (cwV 2 hts gX7_queuedStreet_X7_ofPlough rfl rfl rfl (by decide +kernel) ⟨Nat.le_of_ble_eq_true rfl, Nat.le_of_ble_eq_true rfl⟩) hE (gSub hP [0, 1]) (gDSub hD [0, 1] rfl) 0 11 rfl rfl rfl rfl rfl hl.1 rfl (lv_room (Nat.le_of_ble_eq_true rfl)) dX7_queuedStreet_27 ⟨Nat.le_of_ble_eq_true rfl, Nat.le_of_ble_eq_true rfl⟩) hP hD hS hA [0, 1] rfl rfl rfl (fun r3 H locs hw hP hD hS => ?_)
      have hP : va_P g.1 vwCl (List.flatten [kMo g a_mo a_ms a_mwas a_mtried a_msaved a_mpast a_mfar a_mdrift a_mline a_mtape a_mcommands m_changes m_thrown_v2 m_errorAt m_failedAt m_answer m_isSaved m_lined m_taped m_here m_commandMany, kAr g a_ms 130 m_s]) H := hP
      have hD : va_D A (List.flatten [kMo g a_mo a_ms a_mwas a_mtried a_msaved a_mpast a_mfar a_mdrift a_mline a_mtape a_mcommands m_changes m_thrown_v2 m_errorAt m_failedAt m_answer m_isSaved m_lined m_taped m_here m_commandMany, kAr g a_ms 130 m_s]) := hD
      refine lv_iconst (v := 1) hx hb dX7_queuedStreet_30 (by decide) ?_
      refine lv_isub hx hb dX7_queuedStreet_31 ?_
      refine gCi0 (gRunS (As := [.int x2, .int 0, .int (r3 - 1)]) (rest := [.ref (a_mo 0)]) ⟨hx, hb, hml, hown, hts⟩ (ctX7_isIn l g _ x2 0 (r3 - 1) hw) (va_cwS 3 hts gX7_queuedStreet_X7_isIn rfl rfl rfl (by decide +kernel) ⟨Nat.le_of_ble_eq_true rfl, Nat.le_of_ble_eq_true rfl⟩) hE (gSub hP []) (gDSub hD [] rfl) rfl rfl hl.1 rfl (lv_room (Nat.le_of_ble_eq_true rfl)) dX7_queuedStreet_32 ⟨Nat.le_of_ble_eq_true rfl, Nat.le_of_ble_eq_true rfl⟩) hP hD hS hA [] rfl rfl rfl (fun r4 H locs hw hP hD hS => ?_)
      have hP : va_P g.1 vwCl (List.flatten [kMo g a_mo a_ms a_mwas a_mtried a_msaved a_mpast a_mfar a_mdrift a_mline a_mtape a_mcommands m_changes m_thrown_v2 m_errorAt m_failedAt m_answer m_isSaved m_lined m_taped m_here m_commandMany, kAr g a_ms 130 m_s]) H := hP
      have hD : va_D A (List.flatten [kMo g a_mo a_ms a_mwas a_mtried a_msaved a_mpast a_mfar a_mdrift a_mline a_mtape a_mcommands m_changes m_thrown_v2 m_errorAt m_failedAt m_answer m_isSaved m_lined m_taped m_here m_commandMany, kAr g a_ms 130 m_s]) := hD
      refine lv_if_ne (tgt := 42) hx hb dX7_queuedStreet_35 (by decide) (fun c_35 => ?_) (fun c_35 => ?_)
      · have hw := hw.1 c_35
        refine lv_iconst (v := 0) hx hb dX7_queuedStreet_42 (by decide) ?_
        exact J43 0 m_thrown_v2 _ _ _ hw hP hD hS (lv_sub hl [0, 1, 2] rfl)
      · have hw := hw.2 c_35
        refine lv_iconst (v := 1) hx hb dX7_queuedStreet_38 (by decide) ?_
        refine lv_goto (tgt := 43) hx hb dX7_queuedStreet_39 (by decide) ?_
        exact J43 1 m_thrown_v2 _ _ _ hw hP hD hS (lv_sub hl [0, 1, 2] rfl)
  refine lv_aload_n hx hb dX7_queuedStreet_0 rfl (lv_at hl 0 rfl) ?_
  refine lv_aload_n hx hb dX7_queuedStreet_1 rfl (lv_at hl 0 rfl) ?_
  refine lv_iload_n hx hb dX7_queuedStreet_2 rfl (lv_at hl 1 rfl) ?_
  refine gCi0 (gRunV (As := [.int x1]) (rest := [.ref (a_mo 0)]) ⟨hx, hb, hml, hown, hts⟩ (ctX7_isPlough l g a_mo a_ms a_mwas a_mtried a_msaved a_mpast a_mfar a_mdrift a_mline a_mtape a_mcommands _ m_changes m_thrown m_errorAt m_failedAt m_answer m_isSaved m_lined m_taped m_here m_commandMany m_s x1 hw) (cwV 1 hts gX7_queuedStreet_X7_isPlough rfl rfl rfl (by decide +kernel) ⟨Nat.le_of_ble_eq_true rfl, Nat.le_of_ble_eq_true rfl⟩) hE (gSub hP [0, 1]) (gDSub hD [0, 1] rfl) 0 11 rfl rfl rfl rfl rfl hl.1 rfl (lv_room (Nat.le_of_ble_eq_true rfl)) dX7_queuedStreet_3 ⟨Nat.le_of_ble_eq_true rfl, Nat.le_of_ble_eq_true rfl⟩) hP hD hS hA [0, 1] rfl rfl rfl (fun r1 H locs hw hP hD hS => ?_)
  have hP : va_P g.1 vwCl (List.flatten [kMo g a_mo a_ms a_mwas a_mtried a_msaved a_mpast a_mfar a_mdrift a_mline a_mtape a_mcommands m_changes m_thrown m_errorAt m_failedAt m_answer m_isSaved m_lined m_taped m_here m_commandMany, kAr g a_ms 130 m_s]) H := hP
  have hD : va_D A (List.flatten [kMo g a_mo a_ms a_mwas a_mtried a_msaved a_mpast a_mfar a_mdrift a_mline a_mtape a_mcommands m_changes m_thrown m_errorAt m_failedAt m_answer m_isSaved m_lined m_taped m_here m_commandMany, kAr g a_ms 130 m_s]) := hD
  refine lv_if_ne (tgt := 13) hx hb dX7_queuedStreet_6 (by decide) (fun c_6 => ?_) (fun c_6 => ?_)
  · have hw := hw.1 c_6
    refine lv_iconst (v := 0) hx hb dX7_queuedStreet_13 (by decide) ?_
    exact J14 0 m_thrown _ _ _ hw hP hD hS (lv_sub hl [0, 1, 2] rfl)
  · have hw := hw.2 c_6
    refine lv_iconst (v := 1) hx hb dX7_queuedStreet_9 (by decide) ?_
    refine lv_goto (tgt := 14) hx hb dX7_queuedStreet_10 (by decide) ?_
    exact J14 1 m_thrown _ _ _ hw hP hD hS (lv_sub hl [0, 1, 2] rfl)
abbrev rmX7_orderMinutes : Room := { frames := 4, cells := 0, slots := 0, locals := 173 }
set_option maxRecDepth 20000 in
theorem inX7_orderMinutes_X7 : ∀ w ∈ wsX70, w ∈ wsX7_orderMinutes := by decide +kernel
set_option maxHeartbeats 4000000 in
set_option maxRecDepth 100000 in
theorem ctX7_orderMinutes (l : Launch) (g : GG) (a_mo : Nat → Nat) (a_ms : Nat → Nat) (a_mwas : Nat → Nat) (a_mtried : Nat → Nat) (a_msaved : Nat → Nat) (a_mpast : Nat → Nat) (a_mfar : Nat → Nat) (a_mdrift : Nat → Nat) (a_mline : Nat → Nat) (a_mtape : Nat → Nat) (a_mcommands : Nat → Nat) (sz : Nat) (m_changes : Int32) (m_thrown : Int32) (m_errorAt : Int32) (m_failedAt : Int32) (m_answer : Int32) (m_isSaved : Int32) (m_lined : Int32) (m_taped : Int32) (m_here : Int32) (m_commandMany : Int32) (m_s : Nat → Int32) (m_far : Nat → Int32) (x1 : Int32) (x2 : Int32) {post : Int32 → Int32 → (Nat → Int32) → Prop} (hw : wpX7_orderMinutes x1 x2 m_thrown m_s m_far post) :
    Met l yX7_orderMinutes wsX7_orderMinutes rmX7_orderMinutes (gPc g sz (List.flatten [kMo g a_mo a_ms a_mwas a_mtried a_msaved a_mpast a_mfar a_mdrift a_mline a_mtape a_mcommands m_changes m_thrown m_errorAt m_failedAt m_answer m_isSaved m_lined m_taped m_here m_commandMany, kAr g a_ms 130 m_s, kAr g a_mfar 8 m_far]) [.ref (a_mo 0), .int x1, .int x2]) (gQi2 post (fun u1 u2 => gB g (List.flatten [kMo g a_mo a_ms a_mwas a_mtried a_msaved a_mpast a_mfar a_mdrift a_mline a_mtape a_mcommands m_changes m_thrown m_errorAt m_failedAt m_answer m_isSaved m_lined m_taped m_here m_commandMany, kAr g a_ms 130 m_s, kAr g a_mfar 8 m_far]) sz (List.flatten [kMo g a_mo a_ms a_mwas a_mtried a_msaved a_mpast a_mfar a_mdrift a_mline a_mtape a_mcommands m_changes u1 m_errorAt m_failedAt m_answer m_isSaved m_lined m_taped m_here m_commandMany, kAr g a_ms 130 m_s, kAr g a_mfar 8 u2])) (va_A (List.flatten [kMo g a_mo a_ms a_mwas a_mtried a_msaved a_mpast a_mfar a_mdrift a_mline a_mtape a_mcommands m_changes m_thrown m_errorAt m_failedAt m_answer m_isSaved m_lined m_taped m_here m_commandMany, kAr g a_ms 130 m_s, kAr g a_mfar 8 m_far]) sz)) 0 0 (va_A (List.flatten [kMo g a_mo a_ms a_mwas a_mtried a_msaved a_mpast a_mfar a_mdrift a_mline a_mtape a_mcommands m_changes m_thrown m_errorAt m_failedAt m_answer m_isSaved m_lined m_taped m_here m_commandMany, kAr g a_ms 130 m_s, kAr g a_mfar 8 m_far]) sz) := by
  refine gOf (cc := cX7_orderMinutes) (maxL := 4) (ret := (some .int)) (by decide) rfl (Nat.le_of_ble_eq_true rfl) ?_
  intro p e s m below meth c ls Q A hQ hx hb hr hml hts hown hlocks hE hA0 hsz hP hD hA hS hl
  have hl : lv_has ls 4 [(0, .ref (a_mo 0)), (1, .int x1), (2, .int x2)] := hl
  have J22 : ∀ (z1_22 : Int32) (m_thrown_22 : Int32) (m_far_22 : Nat → Int32) (H : Heap) (locs : List Loc) (ls : Array Slot), wpX7_orderMinutes_L22 x1 x2 m_s post z1_22 m_thrown_22 m_far_22 → va_P g.1 vwCl (List.flatten [kMo g a_mo a_ms a_mwas a_mtried a_msaved a_mpast a_mfar a_mdrift a_mline a_mtape a_mcommands m_changes m_thrown_22 m_errorAt m_failedAt m_answer m_isSaved m_lined m_taped m_here m_commandMany, kAr g a_ms 130 m_s, kAr g a_mfar 8 m_far_22]) H → va_D A (List.flatten [kMo g a_mo a_ms a_mwas a_mtried a_msaved a_mpast a_mfar a_mdrift a_mline a_mtape a_mcommands m_changes m_thrown_22 m_errorAt m_failedAt m_answer m_isSaved m_lined m_taped m_here m_commandMany, kAr g a_ms 130 m_s, kAr g a_mfar 8 m_far_22]) → va_S A s.heap H locs → lv_has ls 4 [(0, .ref (a_mo 0)), (1, .int x1), (2, .int x2)] → W p l e rmX7_orderMinutes s m (([.ref (a_mo 0), .int x1, .int x2] : List Value).toArray) below meth c H locs 0 0 Q (F0 m 22 ls [.int z1_22, .ref (a_mo 0)]) := by
    intro z1_22 m_thrown_22 m_far_22 H locs ls hw hP hD hS hl
    refine lv_iconst (v := 1) hx hb dX7_orderMinutes_22 (by decide) ?_
    refine gCi1 (gRunV (As := [.int z1_22, .int 1]) (rest := []) ⟨hx, hb, hml, hown, hts⟩ (ctX7_isThrown l g a_mo a_ms a_mwas a_mtried a_msaved a_mpast a_mfar a_mdrift a_mline a_mtape a_mcommands _ m_changes m_thrown_22 m_errorAt m_failedAt m_answer m_isSaved m_lined m_taped m_here m_commandMany z1_22 1 hw) (cwV 2 hts gX7_orderMinutes_X7_isThrown rfl rfl rfl (by decide +kernel) ⟨Nat.le_of_ble_eq_true rfl, Nat.le_of_ble_eq_true rfl⟩) hE (gSub hP [0]) (gDSub hD [0] rfl) 0 11 rfl rfl rfl rfl rfl hl.1 rfl (lv_room (Nat.le_of_ble_eq_true rfl)) dX7_orderMinutes_23 ⟨Nat.le_of_ble_eq_true rfl, Nat.le_of_ble_eq_true rfl⟩) hP hD hS hA [0] rfl (fun _ => rfl) rfl (fun r2 m_thrown_v2 H locs hw hP hD hS => ?_)
    have hP : va_P g.1 vwCl (List.flatten [kMo g a_mo a_ms a_mwas a_mtried a_msaved a_mpast a_mfar a_mdrift a_mline a_mtape a_mcommands m_changes m_thrown_v2 m_errorAt m_failedAt m_answer m_isSaved m_lined m_taped m_here m_commandMany, kAr g a_ms 130 m_s, kAr g a_mfar 8 m_far_22]) H := hP
    have hD : va_D A (List.flatten [kMo g a_mo a_ms a_mwas a_mtried a_msaved a_mpast a_mfar a_mdrift a_mline a_mtape a_mcommands m_changes m_thrown_v2 m_errorAt m_failedAt m_answer m_isSaved m_lined m_taped m_here m_commandMany, kAr g a_ms 130 m_s, kAr g a_mfar 8 m_far_22]) := hD
    refine lv_if_eq (tgt := 31) hx hb dX7_orderMinutes_26 (by decide) (fun c_26 => ?_) (fun c_26 => ?_)
    · have hw := hw.1 c_26
      refine lv_aload_n hx hb dX7_orderMinutes_31 rfl (lv_at hl 0 rfl) ?_
      refine lv_aload_n hx hb dX7_orderMinutes_32 rfl (lv_at hl 0 rfl) ?_
      refine lv_iload_n hx hb dX7_orderMinutes_33 rfl (lv_at hl 1 rfl) ?_
      refine lv_iconst (v := 0) hx hb dX7_orderMinutes_34 (by decide) ?_
      refine gCi0 (gRunV (As := [.int x1, .int 0]) (rest := [.ref (a_mo 0)]) ⟨hx, hb, hml, hown, hts⟩ (ctX7_ofPlough l g a_mo a_ms a_mwas a_mtried a_msaved a_mpast a_mfar a_mdrift a_mline a_mtape a_mcommands _ m_changes m_thrown_v2 m_errorAt m_failedAt m_answer m_isSaved m_lined m_taped m_here m_commandMany m_s x1 0 hw) (cwV 2 hts gX7_orderMinutes_X7_ofPlough rfl rfl rfl (by decide +kernel) ⟨Nat.le_of_ble_eq_true rfl, Nat.le_of_ble_eq_true rfl⟩) hE (gSub hP [0, 1]) (gDSub hD [0, 1] rfl) 0 11 rfl rfl rfl rfl rfl hl.1 rfl (lv_room (Nat.le_of_ble_eq_true rfl)) dX7_orderMinutes_35 ⟨Nat.le_of_ble_eq_true rfl, Nat.le_of_ble_eq_true rfl⟩) hP hD hS hA [0, 1] rfl rfl rfl (fun r3 H locs hw hP hD hS => ?_)
      have hP : va_P g.1 vwCl (List.flatten [kMo g a_mo a_ms a_mwas a_mtried a_msaved a_mpast a_mfar a_mdrift a_mline a_mtape a_mcommands m_changes m_thrown_v2 m_errorAt m_failedAt m_answer m_isSaved m_lined m_taped m_here m_commandMany, kAr g a_ms 130 m_s, kAr g a_mfar 8 m_far_22]) H := hP
      have hD : va_D A (List.flatten [kMo g a_mo a_ms a_mwas a_mtried a_msaved a_mpast a_mfar a_mdrift a_mline a_mtape a_mcommands m_changes m_thrown_v2 m_errorAt m_failedAt m_answer m_isSaved m_lined m_taped m_here m_commandMany, kAr g a_ms 130 m_s, kAr g a_mfar 8 m_far_22]) := hD
      refine lv_iload_n hx hb dX7_orderMinutes_38 rfl (lv_at hl 2 rfl) ?_
      refine gCi1 (gRunV (As := [.int r3, .int x2]) (rest := []) ⟨hx, hb, hml, hown, hts⟩ (ctX7_minutes l g a_mo a_ms a_mwas a_mtried a_msaved a_mpast a_mfar a_mdrift a_mline a_mtape a_mcommands _ m_changes m_thrown_v2 m_errorAt m_failedAt m_answer m_isSaved m_lined m_taped m_here m_commandMany m_s m_far_22 r3 x2 hw) (cwV 2 hts gX7_orderMinutes_X7_minutes rfl rfl rfl (by decide +kernel) ⟨Nat.le_of_ble_eq_true rfl, Nat.le_of_ble_eq_true rfl⟩) hE (gSub hP [0, 1, 2]) (gDSub hD [0, 1, 2] rfl) 0 11 rfl rfl rfl rfl rfl hl.1 rfl (lv_room (Nat.le_of_ble_eq_true rfl)) dX7_orderMinutes_39 ⟨Nat.le_of_ble_eq_true rfl, Nat.le_of_ble_eq_true rfl⟩) hP hD hS hA [0, 1, 2] rfl (fun _ => rfl) rfl (fun r4 m_far_v4 H locs hw hP hD hS => ?_)
      have hP : va_P g.1 vwCl (List.flatten [kMo g a_mo a_ms a_mwas a_mtried a_msaved a_mpast a_mfar a_mdrift a_mline a_mtape a_mcommands m_changes m_thrown_v2 m_errorAt m_failedAt m_answer m_isSaved m_lined m_taped m_here m_commandMany, kAr g a_ms 130 m_s, kAr g a_mfar 8 m_far_v4]) H := hP
      have hD : va_D A (List.flatten [kMo g a_mo a_ms a_mwas a_mtried a_msaved a_mpast a_mfar a_mdrift a_mline a_mtape a_mcommands m_changes m_thrown_v2 m_errorAt m_failedAt m_answer m_isSaved m_lined m_taped m_here m_commandMany, kAr g a_ms 130 m_s, kAr g a_mfar 8 m_far_v4]) := hD
      refine lv_istore_n (lv' := [(3, .int r4), (0, .ref (a_mo 0)), (1, .int x1), (2, .int x2)]) hx hb dX7_orderMinutes_42 rfl hl (by decide) rfl (fun ls hl => ?_)
      refine lv_aload_n hx hb dX7_orderMinutes_43 rfl (lv_at hl 1 rfl) ?_
      refine lv_iload_n hx hb dX7_orderMinutes_44 rfl (lv_at hl 0 rfl) ?_
      refine lv_if_ge (tgt := 52) hx hb dX7_orderMinutes_45 (by decide) (fun c_45 => ?_) (fun c_45 => ?_)
      · have hw := hw.1 c_45
        refine lv_iconst (v := 0) hx hb dX7_orderMinutes_52 (by decide) ?_
        refine lv_iconst (v := 2) hx hb dX7_orderMinutes_53 (by decide) ?_
        refine gCi1 (gRunV (As := [.int 0, .int 2]) (rest := []) ⟨hx, hb, hml, hown, hts⟩ (ctX7_isThrown l g a_mo a_ms a_mwas a_mtried a_msaved a_mpast a_mfar a_mdrift a_mline a_mtape a_mcommands _ m_changes m_thrown_v2 m_errorAt m_failedAt m_answer m_isSaved m_lined m_taped m_here m_commandMany 0 2 hw) (cwV 2 hts gX7_orderMinutes_X7_isThrown rfl rfl rfl (by decide +kernel) ⟨Nat.le_of_ble_eq_true rfl, Nat.le_of_ble_eq_true rfl⟩) hE (gSub hP [0]) (gDSub hD [0] rfl) 0 11 rfl rfl rfl rfl rfl hl.1 rfl (lv_room (Nat.le_of_ble_eq_true rfl)) dX7_orderMinutes_54 ⟨Nat.le_of_ble_eq_true rfl, Nat.le_of_ble_eq_true rfl⟩) hP hD hS hA [0] rfl (fun _ => rfl) rfl (fun r5 m_thrown_v5 H locs hw hP hD hS => ?_)
        have hP : va_P g.1 vwCl (List.flatten [kMo g a_mo a_ms a_mwas a_mtried a_msaved a_mpast a_mfar a_mdrift a_mline a_mtape a_mcommands m_changes m_thrown_v5 m_errorAt m_failedAt m_answer m_isSaved m_lined m_taped m_here m_commandMany, kAr g a_ms 130 m_s, kAr g a_mfar 8 m_far_v4]) H := hP
        have hD : va_D A (List.flatten [kMo g a_mo a_ms a_mwas a_mtried a_msaved a_mpast a_mfar a_mdrift a_mline a_mtape a_mcommands m_changes m_thrown_v5 m_errorAt m_failedAt m_answer m_isSaved m_lined m_taped m_here m_commandMany, kAr g a_ms 130 m_s, kAr g a_mfar 8 m_far_v4]) := hD
        refine lv_if_eq (tgt := 64) hx hb dX7_orderMinutes_57 (by decide) (fun c_57 => ?_) (fun c_57 => ?_)
        · have hw := hw.1 c_57
          refine lv_iload_n hx hb dX7_orderMinutes_64 rfl (lv_at hl 0 rfl) ?_
          subst hQ
          exact W.iret hx hb hr (gRi2 (c1 := m_thrown_v5) (c2 := m_far_v4) (wf := _) hA0 hsz hw hP hD hS) hS.2.2 dX7_orderMinutes_65
        · have hw := hw.2 c_57
          refine lv_iconst (v := 0) hx hb dX7_orderMinutes_60 (by decide) ?_
          refine lv_goto (tgt := 65) hx hb dX7_orderMinutes_61 (by decide) ?_
          subst hQ
          exact W.iret hx hb hr (gRi2 (c1 := m_thrown_v5) (c2 := m_far_v4) (wf := _) hA0 hsz hw hP hD hS) hS.2.2 dX7_orderMinutes_65
      · have hw := hw.2 c_45
        refine lv_iconst (v := 1) hx hb dX7_orderMinutes_48 (by decide) ?_
        refine lv_goto (tgt := 53) hx hb dX7_orderMinutes_49 (by decide) ?_
        refine lv_iconst (v := 2) hx hb dX7_orderMinutes_53 (by decide) ?_
        refine gCi1 (gRunV (As := [.int 1, .int 2]) (rest := []) ⟨hx, hb, hml, hown, hts⟩ (ctX7_isThrown l g a_mo a_ms a_mwas a_mtried a_msaved a_mpast a_mfar a_mdrift a_mline a_mtape a_mcommands _ m_changes m_thrown_v2 m_errorAt m_failedAt m_answer m_isSaved m_lined m_taped m_here m_commandMany 1 2 hw) (cwV 2 hts gX7_orderMinutes_X7_isThrown rfl rfl rfl (by decide +kernel) ⟨Nat.le_of_ble_eq_true rfl, Nat.le_of_ble_eq_true rfl⟩) hE (gSub hP [0]) (gDSub hD [0] rfl) 0 11 rfl rfl rfl rfl rfl hl.1 rfl (lv_room (Nat.le_of_ble_eq_true rfl)) dX7_orderMinutes_54 ⟨Nat.le_of_ble_eq_true rfl, Nat.le_of_ble_eq_true rfl⟩) hP hD hS hA [0] rfl (fun _ => rfl) rfl (fun r6 m_thrown_v6 H locs hw hP hD hS => ?_)
        have hP : va_P g.1 vwCl (List.flatten [kMo g a_mo a_ms a_mwas a_mtried a_msaved a_mpast a_mfar a_mdrift a_mline a_mtape a_mcommands m_changes m_thrown_v6 m_errorAt m_failedAt m_answer m_isSaved m_lined m_taped m_here m_commandMany, kAr g a_ms 130 m_s, kAr g a_mfar 8 m_far_v4]) H := hP
        have hD : va_D A (List.flatten [kMo g a_mo a_ms a_mwas a_mtried a_msaved a_mpast a_mfar a_mdrift a_mline a_mtape a_mcommands m_changes m_thrown_v6 m_errorAt m_failedAt m_answer m_isSaved m_lined m_taped m_here m_commandMany, kAr g a_ms 130 m_s, kAr g a_mfar 8 m_far_v4]) := hD
        refine lv_if_eq (tgt := 64) hx hb dX7_orderMinutes_57 (by decide) (fun c_57 => ?_) (fun c_57 => ?_)
        · have hw := hw.1 c_57
          refine lv_iload_n hx hb dX7_orderMinutes_64 rfl (lv_at hl 0 rfl) ?_
          subst hQ
          exact W.iret hx hb hr (gRi2 (c1 := m_thrown_v6) (c2 := m_far_v4) (wf := _) hA0 hsz hw hP hD hS) hS.2.2 dX7_orderMinutes_65
        · have hw := hw.2 c_57
          refine lv_iconst (v := 0) hx hb dX7_orderMinutes_60 (by decide) ?_
          refine lv_goto (tgt := 65) hx hb dX7_orderMinutes_61 (by decide) ?_
          subst hQ
          exact W.iret hx hb hr (gRi2 (c1 := m_thrown_v6) (c2 := m_far_v4) (wf := _) hA0 hsz hw hP hD hS) hS.2.2 dX7_orderMinutes_65
    · have hw := hw.2 c_26
      refine lv_iconst (v := 0) hx hb dX7_orderMinutes_29 (by decide) ?_
      subst hQ
      exact W.iret hx hb hr (gRi2 (c1 := m_thrown_v2) (c2 := m_far_22) (wf := _) hA0 hsz hw hP hD hS) hS.2.2 dX7_orderMinutes_30
  refine lv_aload_n hx hb dX7_orderMinutes_0 rfl (lv_at hl 0 rfl) ?_
  refine lv_aload_n hx hb dX7_orderMinutes_1 rfl (lv_at hl 0 rfl) ?_
  refine lv_iload_n hx hb dX7_orderMinutes_2 rfl (lv_at hl 1 rfl) ?_
  refine gCi0 (gRunV (As := [.int x1]) (rest := [.ref (a_mo 0)]) ⟨hx, hb, hml, hown, hts⟩ (ctX7_isPlough l g a_mo a_ms a_mwas a_mtried a_msaved a_mpast a_mfar a_mdrift a_mline a_mtape a_mcommands _ m_changes m_thrown m_errorAt m_failedAt m_answer m_isSaved m_lined m_taped m_here m_commandMany m_s x1 hw) (cwV 1 hts gX7_orderMinutes_X7_isPlough rfl rfl rfl (by decide +kernel) ⟨Nat.le_of_ble_eq_true rfl, Nat.le_of_ble_eq_true rfl⟩) hE (gSub hP [0, 1]) (gDSub hD [0, 1] rfl) 0 11 rfl rfl rfl rfl rfl hl.1 rfl (lv_room (Nat.le_of_ble_eq_true rfl)) dX7_orderMinutes_3 ⟨Nat.le_of_ble_eq_true rfl, Nat.le_of_ble_eq_true rfl⟩) hP hD hS hA [0, 1] rfl rfl rfl (fun r1 H locs hw hP hD hS => ?_)
  have hP : va_P g.1 vwCl (List.flatten [kMo g a_mo a_ms a_mwas a_mtried a_msaved a_mpast a_mfar a_mdrift a_mline a_mtape a_mcommands m_changes m_thrown m_errorAt m_failedAt m_answer m_isSaved m_lined m_taped m_here m_commandMany, kAr g a_ms 130 m_s, kAr g a_mfar 8 m_far]) H := hP
  have hD : va_D A (List.flatten [kMo g a_mo a_ms a_mwas a_mtried a_msaved a_mpast a_mfar a_mdrift a_mline a_mtape a_mcommands m_changes m_thrown m_errorAt m_failedAt m_answer m_isSaved m_lined m_taped m_here m_commandMany, kAr g a_ms 130 m_s, kAr g a_mfar 8 m_far]) := hD
  refine lv_if_eq (tgt := 17) hx hb dX7_orderMinutes_6 (by decide) (fun c_6 => ?_) (fun c_6 => ?_)
  · have hw := hw.1 c_6
    refine lv_iconst (v := 1) hx hb dX7_orderMinutes_17 (by decide) ?_
    refine lv_goto (tgt := 22) hx hb dX7_orderMinutes_18 (by decide) ?_
    exact J22 1 m_thrown m_far _ _ _ hw hP hD hS (lv_sub hl [0, 1, 2] rfl)
  · have hw := hw.2 c_6
    refine lv_aload_n hx hb dX7_orderMinutes_9 rfl (lv_at hl 0 rfl) ?_
    refine lv_iload_n hx hb dX7_orderMinutes_10 rfl (lv_at hl 2 rfl) ?_
    refine gCi0 (gRunV (As := [.int x2]) (rest := [.ref (a_mo 0)]) ⟨hx, hb, hml, hown, hts⟩ (ctX7_isStreet l g a_mo a_ms a_mwas a_mtried a_msaved a_mpast a_mfar a_mdrift a_mline a_mtape a_mcommands _ m_changes m_thrown m_errorAt m_failedAt m_answer m_isSaved m_lined m_taped m_here m_commandMany m_s x2 hw) (cwV 1 hts gX7_orderMinutes_X7_isStreet rfl rfl rfl (by decide +kernel) ⟨Nat.le_of_ble_eq_true rfl, Nat.le_of_ble_eq_true rfl⟩) hE (gSub hP [0, 1]) (gDSub hD [0, 1] rfl) 0 11 rfl rfl rfl rfl rfl hl.1 rfl (lv_room (Nat.le_of_ble_eq_true rfl)) dX7_orderMinutes_11 ⟨Nat.le_of_ble_eq_true rfl, Nat.le_of_ble_eq_true rfl⟩) hP hD hS hA [0, 1] rfl rfl rfl (fun r7 H locs hw hP hD hS => ?_)
    have hP : va_P g.1 vwCl (List.flatten [kMo g a_mo a_ms a_mwas a_mtried a_msaved a_mpast a_mfar a_mdrift a_mline a_mtape a_mcommands m_changes m_thrown m_errorAt m_failedAt m_answer m_isSaved m_lined m_taped m_here m_commandMany, kAr g a_ms 130 m_s, kAr g a_mfar 8 m_far]) H := hP
    have hD : va_D A (List.flatten [kMo g a_mo a_ms a_mwas a_mtried a_msaved a_mpast a_mfar a_mdrift a_mline a_mtape a_mcommands m_changes m_thrown m_errorAt m_failedAt m_answer m_isSaved m_lined m_taped m_here m_commandMany, kAr g a_ms 130 m_s, kAr g a_mfar 8 m_far]) := hD
    refine lv_if_ne (tgt := 21) hx hb dX7_orderMinutes_14 (by decide) (fun c_14 => ?_) (fun c_14 => ?_)
    · have hw := hw.1 c_14
      refine lv_iconst (v := 0) hx hb dX7_orderMinutes_21 (by decide) ?_
      exact J22 0 m_thrown m_far _ _ _ hw hP hD hS (lv_sub hl [0, 1, 2] rfl)
    · have hw := hw.2 c_14
      refine lv_iconst (v := 1) hx hb dX7_orderMinutes_17 (by decide) ?_
      refine lv_goto (tgt := 22) hx hb dX7_orderMinutes_18 (by decide) ?_
      exact J22 1 m_thrown m_far _ _ _ hw hP hD hS (lv_sub hl [0, 1, 2] rfl)
abbrev rmX7_minutesUntilCleared : Room := { frames := 7, cells := 0, slots := 0, locals := 246 }
set_option maxRecDepth 20000 in
theorem inX7_minutesUntilCleared_X7 : ∀ w ∈ wsX70, w ∈ wsX7_minutesUntilCleared := by decide +kernel
set_option maxHeartbeats 4000000 in
set_option maxRecDepth 100000 in
theorem ctX7_minutesUntilCleared (l : Launch) (g : GG) (a_mo : Nat → Nat) (a_ms : Nat → Nat) (a_mwas : Nat → Nat) (a_mtried : Nat → Nat) (a_msaved : Nat → Nat) (a_mpast : Nat → Nat) (a_mfar : Nat → Nat) (a_mdrift : Nat → Nat) (a_mline : Nat → Nat) (a_mtape : Nat → Nat) (a_mcommands : Nat → Nat) (sz : Nat) (m_changes : Int32) (m_thrown : Int32) (m_errorAt : Int32) (m_failedAt : Int32) (m_answer : Int32) (m_isSaved : Int32) (m_lined : Int32) (m_taped : Int32) (m_here : Int32) (m_commandMany : Int32) (m_s : Nat → Int32) (m_tried : Nat → Int32) (m_far : Nat → Int32) (m_drift : Nat → Int32) (x1 : Int32) {post : Int32 → Int32 → (Nat → Int32) → (Nat → Int32) → (Nat → Int32) → (Nat → Int32) → Prop} (hw : wpX7_minutesUntilCleared x1 m_thrown m_s m_tried m_far m_drift post) :
    Met l yX7_minutesUntilCleared wsX7_minutesUntilCleared rmX7_minutesUntilCleared (gPc g sz (List.flatten [kMo g a_mo a_ms a_mwas a_mtried a_msaved a_mpast a_mfar a_mdrift a_mline a_mtape a_mcommands m_changes m_thrown m_errorAt m_failedAt m_answer m_isSaved m_lined m_taped m_here m_commandMany, kAr g a_ms 130 m_s, kAr g a_mtried 130 m_tried, kAr g a_mfar 8 m_far, kAr g a_mdrift 12 m_drift]) [.ref (a_mo 0), .int x1]) (gQi5 post (fun u1 u2 u3 u4 u5 => gB g (List.flatten [kMo g a_mo a_ms a_mwas a_mtried a_msaved a_mpast a_mfar a_mdrift a_mline a_mtape a_mcommands m_changes m_thrown m_errorAt m_failedAt m_answer m_isSaved m_lined m_taped m_here m_commandMany, kAr g a_ms 130 m_s, kAr g a_mtried 130 m_tried, kAr g a_mfar 8 m_far, kAr g a_mdrift 12 m_drift]) sz (List.flatten [kMo g a_mo a_ms a_mwas a_mtried a_msaved a_mpast a_mfar a_mdrift a_mline a_mtape a_mcommands m_changes u1 m_errorAt m_failedAt m_answer m_isSaved m_lined m_taped m_here m_commandMany, kAr g a_ms 130 u2, kAr g a_mtried 130 u3, kAr g a_mfar 8 u4, kAr g a_mdrift 12 u5])) (va_A (List.flatten [kMo g a_mo a_ms a_mwas a_mtried a_msaved a_mpast a_mfar a_mdrift a_mline a_mtape a_mcommands m_changes m_thrown m_errorAt m_failedAt m_answer m_isSaved m_lined m_taped m_here m_commandMany, kAr g a_ms 130 m_s, kAr g a_mtried 130 m_tried, kAr g a_mfar 8 m_far, kAr g a_mdrift 12 m_drift]) sz)) 0 0 (va_A (List.flatten [kMo g a_mo a_ms a_mwas a_mtried a_msaved a_mpast a_mfar a_mdrift a_mline a_mtape a_mcommands m_changes m_thrown m_errorAt m_failedAt m_answer m_isSaved m_lined m_taped m_here m_commandMany, kAr g a_ms 130 m_s, kAr g a_mtried 130 m_tried, kAr g a_mfar 8 m_far, kAr g a_mdrift 12 m_drift]) sz) := by
  refine gOf (cc := cX7_minutesUntilCleared) (maxL := 3) (ret := (some .int)) (by decide) rfl (Nat.le_of_ble_eq_true rfl) ?_
  intro p e s m below meth c ls Q A hQ hx hb hr hml hts hown hlocks hE hA0 hsz hP hD hA hS hl
  have hl : lv_has ls 3 [(0, .ref (a_mo 0)), (1, .int x1)] := hl
  have J59 : ∀ (x2_59 : Int32) (m_thrown_59 : Int32) (m_s_59 : Nat → Int32) (m_tried_59 : Nat → Int32) (m_far_59 : Nat → Int32) (m_drift_59 : Nat → Int32) (H : Heap) (locs : List Loc) (ls : Array Slot), wpX7_minutesUntilCleared_L59 post x2_59 m_thrown_59 m_s_59 m_tried_59 m_far_59 m_drift_59 → va_P g.1 vwCl (List.flatten [kMo g a_mo a_ms a_mwas a_mtried a_msaved a_mpast a_mfar a_mdrift a_mline a_mtape a_mcommands m_changes m_thrown_59 m_errorAt m_failedAt m_answer m_isSaved m_lined m_taped m_here m_commandMany, kAr g a_ms 130 m_s_59, kAr g a_mtried 130 m_tried_59, kAr g a_mfar 8 m_far_59, kAr g a_mdrift 12 m_drift_59]) H → va_D A (List.flatten [kMo g a_mo a_ms a_mwas a_mtried a_msaved a_mpast a_mfar a_mdrift a_mline a_mtape a_mcommands m_changes m_thrown_59 m_errorAt m_failedAt m_answer m_isSaved m_lined m_taped m_here m_commandMany, kAr g a_ms 130 m_s_59, kAr g a_mtried 130 m_tried_59, kAr g a_mfar 8 m_far_59, kAr g a_mdrift 12 m_drift_59]) → va_S A s.heap H locs → lv_has ls 3 [(0, .ref (a_mo 0)), (2, .int x2_59)] → W p l e rmX7_minutesUntilCleared s m (([.ref (a_mo 0), .int x1] : List Value).toArray) below meth c H locs 0 0 Q (F0 m 59 ls []) := by
    intro x2_59 m_thrown_59 m_s_59 m_tried_59 m_far_59 m_drift_59 H locs ls hw hP hD hS hl
    refine lv_aload_n hx hb dX7_minutesUntilCleared_59 rfl (lv_at hl 0 rfl) ?_
    refine va_get (D := g.1) (ci := 11) (v := .ref (a_mtried 0)) (C := RX7) (T := TX7) (N := 20) hx hb hts inX7_minutesUntilCleared_X7 hown hE.1 hP 0 rfl rfl 2 (by decide) (gW hts 2 (.fieldLink RX7 16 "SnowDispatcherModel" "tried" "[I") rfl) (fun _ h9 => h9) rfl dX7_minutesUntilCleared_60 ?_
    refine lv_iconst (v := 0) hx hb dX7_minutesUntilCleared_63 (by decide) ?_
    refine lv_aload_n hx hb dX7_minutesUntilCleared_64 rfl (lv_at hl 0 rfl) ?_
    refine va_get (D := g.1) (ci := 11) (v := .ref (a_ms 0)) (C := RX7) (T := TX7) (N := 20) hx hb hts inX7_minutesUntilCleared_X7 hown hE.1 hP 0 rfl rfl 0 (by decide) (gW hts 1 (.fieldLink RX7 9 "SnowDispatcherModel" "s" "[I") rfl) (fun _ h9 => h9) rfl dX7_minutesUntilCleared_65 ?_
    refine lv_iconst (v := 0) hx hb dX7_minutesUntilCleared_68 (by decide) ?_
    refine gCv1 (gRunS (As := [.ref (a_mtried 0), .int 0, .ref (a_ms 0), .int 0]) (rest := []) ⟨hx, hb, hml, hown, hts⟩ (ctX7_copies l g a_mtried a_ms _ 130 m_tried_59 130 m_s_59 0 0 hw) (va_cwS 4 hts gX7_minutesUntilCleared_X7_copies rfl rfl rfl (by decide +kernel) ⟨Nat.le_of_ble_eq_true rfl, Nat.le_of_ble_eq_true rfl⟩) hE (gSub hP [2, 1]) (gDSub hD [2, 1] rfl) rfl rfl hl.1 rfl (lv_room (Nat.le_of_ble_eq_true rfl)) dX7_minutesUntilCleared_69 ⟨Nat.le_of_ble_eq_true rfl, Nat.le_of_ble_eq_true rfl⟩) hP hD hS hA [2, 1] rfl (fun _ => rfl) rfl (fun m_s_v4 H locs hw hP hD hS => ?_)
    have hP : va_P g.1 vwCl (List.flatten [kMo g a_mo a_ms a_mwas a_mtried a_msaved a_mpast a_mfar a_mdrift a_mline a_mtape a_mcommands m_changes m_thrown_59 m_errorAt m_failedAt m_answer m_isSaved m_lined m_taped m_here m_commandMany, kAr g a_ms 130 m_s_v4, kAr g a_mtried 130 m_tried_59, kAr g a_mfar 8 m_far_59, kAr g a_mdrift 12 m_drift_59]) H := hP
    have hD : va_D A (List.flatten [kMo g a_mo a_ms a_mwas a_mtried a_msaved a_mpast a_mfar a_mdrift a_mline a_mtape a_mcommands m_changes m_thrown_59 m_errorAt m_failedAt m_answer m_isSaved m_lined m_taped m_here m_commandMany, kAr g a_ms 130 m_s_v4, kAr g a_mtried 130 m_tried_59, kAr g a_mfar 8 m_far_59, kAr g a_mdrift 12 m_drift_59]) := hD
    refine lv_aload_n hx hb dX7_minutesUntilCleared_72 rfl (lv_at hl 0 rfl) ?_
    refine lv_iload_n hx hb dX7_minutesUntilCleared_73 rfl (lv_at hl 1 rfl) ?_
    refine lv_sipush (v := 600) hx hb dX7_minutesUntilCleared_74 (by decide) ?_
    refine lv_icmp_le (tgt := 84) hx hb dX7_minutesUntilCleared_77 (by decide) (fun c_77 => ?_) (fun c_77 => ?_)
    · have hw := hw.1 c_77
      refine lv_iconst (v := 0) hx hb dX7_minutesUntilCleared_84 (by decide) ?_
      refine lv_iconst (v := 2) hx hb dX7_minutesUntilCleared_85 (by decide) ?_
      refine gCi1 (gRunV (As := [.int 0, .int 2]) (rest := []) ⟨hx, hb, hml, hown, hts⟩ (ctX7_isThrown l g a_mo a_ms a_mwas a_mtried a_msaved a_mpast a_mfar a_mdrift a_mline a_mtape a_mcommands _ m_changes m_thrown_59 m_errorAt m_failedAt m_answer m_isSaved m_lined m_taped m_here m_commandMany 0 2 hw) (cwV 2 hts gX7_minutesUntilCleared_X7_isThrown rfl rfl rfl (by decide +kernel) ⟨Nat.le_of_ble_eq_true rfl, Nat.le_of_ble_eq_true rfl⟩) hE (gSub hP [0]) (gDSub hD [0] rfl) 0 11 rfl rfl rfl rfl rfl hl.1 rfl (lv_room (Nat.le_of_ble_eq_true rfl)) dX7_minutesUntilCleared_86 ⟨Nat.le_of_ble_eq_true rfl, Nat.le_of_ble_eq_true rfl⟩) hP hD hS hA [0] rfl (fun _ => rfl) rfl (fun r5 m_thrown_v5 H locs hw hP hD hS => ?_)
      have hP : va_P g.1 vwCl (List.flatten [kMo g a_mo a_ms a_mwas a_mtried a_msaved a_mpast a_mfar a_mdrift a_mline a_mtape a_mcommands m_changes m_thrown_v5 m_errorAt m_failedAt m_answer m_isSaved m_lined m_taped m_here m_commandMany, kAr g a_ms 130 m_s_v4, kAr g a_mtried 130 m_tried_59, kAr g a_mfar 8 m_far_59, kAr g a_mdrift 12 m_drift_59]) H := hP
      have hD : va_D A (List.flatten [kMo g a_mo a_ms a_mwas a_mtried a_msaved a_mpast a_mfar a_mdrift a_mline a_mtape a_mcommands m_changes m_thrown_v5 m_errorAt m_failedAt m_answer m_isSaved m_lined m_taped m_here m_commandMany, kAr g a_ms 130 m_s_v4, kAr g a_mtried 130 m_tried_59, kAr g a_mfar 8 m_far_59, kAr g a_mdrift 12 m_drift_59]) := hD
      refine lv_if_eq (tgt := 96) hx hb dX7_minutesUntilCleared_89 (by decide) (fun c_89 => ?_) (fun c_89 => ?_)
      · have hw := hw.1 c_89
        refine lv_iload_n hx hb dX7_minutesUntilCleared_96 rfl (lv_at hl 1 rfl) ?_
        subst hQ
        exact W.iret hx hb hr (gRi5 (c1 := m_thrown_v5) (c2 := m_s_v4) (c3 := m_tried_59) (c4 := m_far_59) (c5 := m_drift_59) (wf := _) hA0 hsz hw hP hD hS) hS.2.2 dX7_minutesUntilCleared_97
      · have hw := hw.2 c_89
        refine lv_iconst (v := 0) hx hb dX7_minutesUntilCleared_92 (by decide) ?_
        refine lv_goto (tgt := 97) hx hb dX7_minutesUntilCleared_93 (by decide) ?_
        subst hQ
        exact W.iret hx hb hr (gRi5 (c1 := m_thrown_v5) (c2 := m_s_v4) (c3 := m_tried_59) (c4 := m_far_59) (c5 := m_drift_59) (wf := _) hA0 hsz hw hP hD hS) hS.2.2 dX7_minutesUntilCleared_97
    · have hw := hw.2 c_77
      refine lv_iconst (v := 1) hx hb dX7_minutesUntilCleared_80 (by decide) ?_
      refine lv_goto (tgt := 85) hx hb dX7_minutesUntilCleared_81 (by decide) ?_
      refine lv_iconst (v := 2) hx hb dX7_minutesUntilCleared_85 (by decide) ?_
      refine gCi1 (gRunV (As := [.int 1, .int 2]) (rest := []) ⟨hx, hb, hml, hown, hts⟩ (ctX7_isThrown l g a_mo a_ms a_mwas a_mtried a_msaved a_mpast a_mfar a_mdrift a_mline a_mtape a_mcommands _ m_changes m_thrown_59 m_errorAt m_failedAt m_answer m_isSaved m_lined m_taped m_here m_commandMany 1 2 hw) (cwV 2 hts gX7_minutesUntilCleared_X7_isThrown rfl rfl rfl (by decide +kernel) ⟨Nat.le_of_ble_eq_true rfl, Nat.le_of_ble_eq_true rfl⟩) hE (gSub hP [0]) (gDSub hD [0] rfl) 0 11 rfl rfl rfl rfl rfl hl.1 rfl (lv_room (Nat.le_of_ble_eq_true rfl)) dX7_minutesUntilCleared_86 ⟨Nat.le_of_ble_eq_true rfl, Nat.le_of_ble_eq_true rfl⟩) hP hD hS hA [0] rfl (fun _ => rfl) rfl (fun r6 m_thrown_v6 H locs hw hP hD hS => ?_)
      have hP : va_P g.1 vwCl (List.flatten [kMo g a_mo a_ms a_mwas a_mtried a_msaved a_mpast a_mfar a_mdrift a_mline a_mtape a_mcommands m_changes m_thrown_v6 m_errorAt m_failedAt m_answer m_isSaved m_lined m_taped m_here m_commandMany, kAr g a_ms 130 m_s_v4, kAr g a_mtried 130 m_tried_59, kAr g a_mfar 8 m_far_59, kAr g a_mdrift 12 m_drift_59]) H := hP
      have hD : va_D A (List.flatten [kMo g a_mo a_ms a_mwas a_mtried a_msaved a_mpast a_mfar a_mdrift a_mline a_mtape a_mcommands m_changes m_thrown_v6 m_errorAt m_failedAt m_answer m_isSaved m_lined m_taped m_here m_commandMany, kAr g a_ms 130 m_s_v4, kAr g a_mtried 130 m_tried_59, kAr g a_mfar 8 m_far_59, kAr g a_mdrift 12 m_drift_59]) := hD
      refine lv_if_eq (tgt := 96) hx hb dX7_minutesUntilCleared_89 (by decide) (fun c_89 => ?_) (fun c_89 => ?_)
      · have hw := hw.1 c_89
        refine lv_iload_n hx hb dX7_minutesUntilCleared_96 rfl (lv_at hl 1 rfl) ?_
        subst hQ
        exact W.iret hx hb hr (gRi5 (c1 := m_thrown_v6) (c2 := m_s_v4) (c3 := m_tried_59) (c4 := m_far_59) (c5 := m_drift_59) (wf := _) hA0 hsz hw hP hD hS) hS.2.2 dX7_minutesUntilCleared_97
      · have hw := hw.2 c_89
        refine lv_iconst (v := 0) hx hb dX7_minutesUntilCleared_92 (by decide) ?_
        refine lv_goto (tgt := 97) hx hb dX7_minutesUntilCleared_93 (by decide) ?_
        subst hQ
        exact W.iret hx hb hr (gRi5 (c1 := m_thrown_v6) (c2 := m_s_v4) (c3 := m_tried_59) (c4 := m_far_59) (c5 := m_drift_59) (wf := _) hA0 hsz hw hP hD hS) hS.2.2 dX7_minutesUntilCleared_97
  have L38 : ∀ (n : Nat) (m_thrown_38 : Int32) (m_tried_38 : Nat → Int32) (x2_38 : Int32) (m_s_38 : Nat → Int32) (m_far_38 : Nat → Int32) (m_drift_38 : Nat → Int32) (H : Heap) (locs : List Loc) (ls : Array Slot), wpX7_minutesUntilCleared_L38 x1 m_thrown_38 m_tried_38 post n x2_38 m_s_38 m_far_38 m_drift_38 → va_P g.1 vwCl (List.flatten [kMo g a_mo a_ms a_mwas a_mtried a_msaved a_mpast a_mfar a_mdrift a_mline a_mtape a_mcommands m_changes m_thrown_38 m_errorAt m_failedAt m_answer m_isSaved m_lined m_taped m_here m_commandMany, kAr g a_ms 130 m_s_38, kAr g a_mtried 130 m_tried_38, kAr g a_mfar 8 m_far_38, kAr g a_mdrift 12 m_drift_38]) H → va_D A (List.flatten [kMo g a_mo a_ms a_mwas a_mtried a_msaved a_mpast a_mfar a_mdrift a_mline a_mtape a_mcommands m_changes m_thrown_38 m_errorAt m_failedAt m_answer m_isSaved m_lined m_taped m_here m_commandMany, kAr g a_ms 130 m_s_38, kAr g a_mtried 130 m_tried_38, kAr g a_mfar 8 m_far_38, kAr g a_mdrift 12 m_drift_38]) → va_S A s.heap H locs → lv_has ls 3 [(0, .ref (a_mo 0)), (1, .int x1), (2, .int x2_38)] → W p l e rmX7_minutesUntilCleared s m (([.ref (a_mo 0), .int x1] : List Value).toArray) below meth c H locs 0 0 Q (F0 m 38 ls []) := by
    intro n_38
    induction n_38 with
    | zero => intro m_thrown_38 m_tried_38 x2_38 m_s_38 m_far_38 m_drift_38 H locs ls hw; exact False.elim hw
    | succ n_38 ih_38 =>
      intro m_thrown_38 m_tried_38 x2_38 m_s_38 m_far_38 m_drift_38 H locs ls hw hP hD hS hl
      refine lv_iload_n hx hb dX7_minutesUntilCleared_38 rfl (lv_at hl 2 rfl) ?_
      refine lv_sipush (v := 600) hx hb dX7_minutesUntilCleared_39 (by decide) ?_
      refine lv_icmp_gt (tgt := 59) hx hb dX7_minutesUntilCleared_42 (by decide) (fun c_42 => ?_) (fun c_42 => ?_)
      · have hw := hw.1 c_42
        exact J59 x2_38 m_thrown_38 m_s_38 m_tried_38 m_far_38 m_drift_38 _ _ _ hw hP hD hS (lv_sub hl [0, 2] rfl)
      · have hw := hw.2 c_42
        refine lv_aload_n hx hb dX7_minutesUntilCleared_45 rfl (lv_at hl 0 rfl) ?_
        refine lv_iload_n hx hb dX7_minutesUntilCleared_46 rfl (lv_at hl 1 rfl) ?_
        refine gCi3 (gRunV (As := [.int x1]) (rest := []) ⟨hx, hb, hml, hown, hts⟩ (ctX7_minutePasses l g a_mo a_ms a_mwas a_mtried a_msaved a_mpast a_mfar a_mdrift a_mline a_mtape a_mcommands _ m_changes m_thrown_38 m_errorAt m_failedAt m_answer m_isSaved m_lined m_taped m_here m_commandMany m_s_38 m_far_38 m_drift_38 x1 hw) (cwV 1 hts gX7_minutesUntilCleared_X7_minutePasses rfl rfl rfl (by decide +kernel) ⟨Nat.le_of_ble_eq_true rfl, Nat.le_of_ble_eq_true rfl⟩) hE (gSub hP [0, 1, 3, 4]) (gDSub hD [0, 1, 3, 4] rfl) 0 11 rfl rfl rfl rfl rfl hl.1 rfl (lv_room (Nat.le_of_ble_eq_true rfl)) dX7_minutesUntilCleared_47 ⟨Nat.le_of_ble_eq_true rfl, Nat.le_of_ble_eq_true rfl⟩) hP hD hS hA [0, 1, 3, 4] rfl (fun _ _ _ => rfl) rfl (fun r7 m_s_v7 m_far_v7 m_drift_v7 H locs hw hP hD hS => ?_)
        have hP : va_P g.1 vwCl (List.flatten [kMo g a_mo a_ms a_mwas a_mtried a_msaved a_mpast a_mfar a_mdrift a_mline a_mtape a_mcommands m_changes m_thrown_38 m_errorAt m_failedAt m_answer m_isSaved m_lined m_taped m_here m_commandMany, kAr g a_ms 130 m_s_v7, kAr g a_mtried 130 m_tried_38, kAr g a_mfar 8 m_far_v7, kAr g a_mdrift 12 m_drift_v7]) H := hP
        have hD : va_D A (List.flatten [kMo g a_mo a_ms a_mwas a_mtried a_msaved a_mpast a_mfar a_mdrift a_mline a_mtape a_mcommands m_changes m_thrown_38 m_errorAt m_failedAt m_answer m_isSaved m_lined m_taped m_here m_commandMany, kAr g a_ms 130 m_s_v7, kAr g a_mtried 130 m_tried_38, kAr g a_mfar 8 m_far_v7, kAr g a_mdrift 12 m_drift_v7]) := hD
        refine lv_if_ne (tgt := 59) hx hb dX7_minutesUntilCleared_50 (by decide) (fun c_50 => ?_) (fun c_50 => ?_)
        · have hw := hw.1 c_50
          exact J59 x2_38 m_thrown_38 m_s_v7 m_tried_38 m_far_v7 m_drift_v7 _ _ _ hw hP hD hS (lv_sub hl [0, 2] rfl)
        · have hw := hw.2 c_50
          refine lv_iinc (v := (x2_38 + 1)) (lv' := [(2, .int (x2_38 + 1)), (0, .ref (a_mo 0)), (1, .int x1)]) hx hb dX7_minutesUntilCleared_53 hl (k := 2) rfl rfl (by decide) rfl (fun ls hl => ?_)
          refine lv_goto (tgt := 38) hx hb dX7_minutesUntilCleared_56 (by decide) ?_
          exact ih_38 m_thrown_38 m_tried_38 (x2_38 + 1) m_s_v7 m_far_v7 m_drift_v7 _ _ _ hw hP hD hS (lv_sub hl [1, 2, 0] rfl)
  have J14 : ∀ (z1_14 : Int32) (m_thrown_14 : Int32) (m_s_14 : Nat → Int32) (m_tried_14 : Nat → Int32) (m_far_14 : Nat → Int32) (m_drift_14 : Nat → Int32) (H : Heap) (locs : List Loc) (ls : Array Slot), wpX7_minutesUntilCleared_L14 x1 post z1_14 m_thrown_14 m_s_14 m_tried_14 m_far_14 m_drift_14 → va_P g.1 vwCl (List.flatten [kMo g a_mo a_ms a_mwas a_mtried a_msaved a_mpast a_mfar a_mdrift a_mline a_mtape a_mcommands m_changes m_thrown_14 m_errorAt m_failedAt m_answer m_isSaved m_lined m_taped m_here m_commandMany, kAr g a_ms 130 m_s_14, kAr g a_mtried 130 m_tried_14, kAr g a_mfar 8 m_far_14, kAr g a_mdrift 12 m_drift_14]) H → va_D A (List.flatten [kMo g a_mo a_ms a_mwas a_mtried a_msaved a_mpast a_mfar a_mdrift a_mline a_mtape a_mcommands m_changes m_thrown_14 m_errorAt m_failedAt m_answer m_isSaved m_lined m_taped m_here m_commandMany, kAr g a_ms 130 m_s_14, kAr g a_mtried 130 m_tried_14, kAr g a_mfar 8 m_far_14, kAr g a_mdrift 12 m_drift_14]) → va_S A s.heap H locs → lv_has ls 3 [(0, .ref (a_mo 0)), (1, .int x1)] → W p l e rmX7_minutesUntilCleared s m (([.ref (a_mo 0), .int x1] : List Value).toArray) below meth c H locs 0 0 Q (F0 m 14 ls [.int z1_14, .ref (a_mo 0)]) := by
    intro z1_14 m_thrown_14 m_s_14 m_tried_14 m_far_14 m_drift_14 H locs ls hw hP hD hS hl
    refine lv_iconst (v := 1) hx hb dX7_minutesUntilCleared_14 (by decide) ?_
    refine gCi1 (gRunV (As := [.int z1_14, .int 1]) (rest := []) ⟨hx, hb, hml, hown, hts⟩ (ctX7_isThrown l g a_mo a_ms a_mwas a_mtried a_msaved a_mpast a_mfar a_mdrift a_mline a_mtape a_mcommands _ m_changes m_thrown_14 m_errorAt m_failedAt m_answer m_isSaved m_lined m_taped m_here m_commandMany z1_14 1 hw) (cwV 2 hts gX7_minutesUntilCleared_X7_isThrown rfl rfl rfl (by decide +kernel) ⟨Nat.le_of_ble_eq_true rfl, Nat.le_of_ble_eq_true rfl⟩) hE (gSub hP [0]) (gDSub hD [0] rfl) 0 11 rfl rfl rfl rfl rfl hl.1 rfl (lv_room (Nat.le_of_ble_eq_true rfl)) dX7_minutesUntilCleared_15 ⟨Nat.le_of_ble_eq_true rfl, Nat.le_of_ble_eq_true rfl⟩) hP hD hS hA [0] rfl (fun _ => rfl) rfl (fun r2 m_thrown_v2 H locs hw hP hD hS => ?_)
    have hP : va_P g.1 vwCl (List.flatten [kMo g a_mo a_ms a_mwas a_mtried a_msaved a_mpast a_mfar a_mdrift a_mline a_mtape a_mcommands m_changes m_thrown_v2 m_errorAt m_failedAt m_answer m_isSaved m_lined m_taped m_here m_commandMany, kAr g a_ms 130 m_s_14, kAr g a_mtried 130 m_tried_14, kAr g a_mfar 8 m_far_14, kAr g a_mdrift 12 m_drift_14]) H := hP
    have hD : va_D A (List.flatten [kMo g a_mo a_ms a_mwas a_mtried a_msaved a_mpast a_mfar a_mdrift a_mline a_mtape a_mcommands m_changes m_thrown_v2 m_errorAt m_failedAt m_answer m_isSaved m_lined m_taped m_here m_commandMany, kAr g a_ms 130 m_s_14, kAr g a_mtried 130 m_tried_14, kAr g a_mfar 8 m_far_14, kAr g a_mdrift 12 m_drift_14]) := hD
    refine lv_if_eq (tgt := 23) hx hb dX7_minutesUntilCleared_18 (by decide) (fun c_18 => ?_) (fun c_18 => ?_)
    · have hw := hw.1 c_18
      refine lv_aload_n hx hb dX7_minutesUntilCleared_23 rfl (lv_at hl 0 rfl) ?_
      refine va_get (D := g.1) (ci := 11) (v := .ref (a_ms 0)) (C := RX7) (T := TX7) (N := 20) hx hb hts inX7_minutesUntilCleared_X7 hown hE.1 hP 0 rfl rfl 0 (by decide) (gW hts 1 (.fieldLink RX7 9 "SnowDispatcherModel" "s" "[I") rfl) (fun _ h9 => h9) rfl dX7_minutesUntilCleared_24 ?_
      refine lv_iconst (v := 0) hx hb dX7_minutesUntilCleared_27 (by decide) ?_
      refine lv_aload_n hx hb dX7_minutesUntilCleared_28 rfl (lv_at hl 0 rfl) ?_
      refine va_get (D := g.1) (ci := 11) (v := .ref (a_mtried 0)) (C := RX7) (T := TX7) (N := 20) hx hb hts inX7_minutesUntilCleared_X7 hown hE.1 hP 0 rfl rfl 2 (by decide) (gW hts 2 (.fieldLink RX7 16 "SnowDispatcherModel" "tried" "[I") rfl) (fun _ h9 => h9) rfl dX7_minutesUntilCleared_29 ?_
      refine lv_iconst (v := 0) hx hb dX7_minutesUntilCleared_32 (by decide) ?_
      refine gCv1 (gRunS (As := [.ref (a_ms 0), .int 0, .ref (a_mtried 0), .int 0]) (rest := []) ⟨hx, hb, hml, hown, hts⟩ (ctX7_copies l g a_ms a_mtried _ 130 m_s_14 130 m_tried_14 0 0 hw) (va_cwS 4 hts gX7_minutesUntilCleared_X7_copies rfl rfl rfl (by decide +kernel) ⟨Nat.le_of_ble_eq_true rfl, Nat.le_of_ble_eq_true rfl⟩) hE (gSub hP [1, 2]) (gDSub hD [1, 2] rfl) rfl rfl hl.1 rfl (lv_room (Nat.le_of_ble_eq_true rfl)) dX7_minutesUntilCleared_33 ⟨Nat.le_of_ble_eq_true rfl, Nat.le_of_ble_eq_true rfl⟩) hP hD hS hA [1, 2] rfl (fun _ => rfl) rfl (fun m_tried_v3 H locs hw hP hD hS => ?_)
      have hP : va_P g.1 vwCl (List.flatten [kMo g a_mo a_ms a_mwas a_mtried a_msaved a_mpast a_mfar a_mdrift a_mline a_mtape a_mcommands m_changes m_thrown_v2 m_errorAt m_failedAt m_answer m_isSaved m_lined m_taped m_here m_commandMany, kAr g a_ms 130 m_s_14, kAr g a_mtried 130 m_tried_v3, kAr g a_mfar 8 m_far_14, kAr g a_mdrift 12 m_drift_14]) H := hP
      have hD : va_D A (List.flatten [kMo g a_mo a_ms a_mwas a_mtried a_msaved a_mpast a_mfar a_mdrift a_mline a_mtape a_mcommands m_changes m_thrown_v2 m_errorAt m_failedAt m_answer m_isSaved m_lined m_taped m_here m_commandMany, kAr g a_ms 130 m_s_14, kAr g a_mtried 130 m_tried_v3, kAr g a_mfar 8 m_far_14, kAr g a_mdrift 12 m_drift_14]) := hD
      refine lv_iconst (v := 1) hx hb dX7_minutesUntilCleared_36 (by decide) ?_
      refine lv_istore_n (lv' := [(2, .int 1), (0, .ref (a_mo 0)), (1, .int x1)]) hx hb dX7_minutesUntilCleared_37 rfl hl (by decide) rfl (fun ls hl => ?_)
      obtain ⟨n, hw⟩ := hw
      exact L38 n m_thrown_v2 m_tried_v3 1 m_s_14 m_far_14 m_drift_14 _ _ _ hw hP hD hS (lv_sub hl [1, 2, 0] rfl)
    · have hw := hw.2 c_18
      refine lv_iconst (v := 0) hx hb dX7_minutesUntilCleared_21 (by decide) ?_
      subst hQ
      exact W.iret hx hb hr (gRi5 (c1 := m_thrown_v2) (c2 := m_s_14) (c3 := m_tried_14) (c4 := m_far_14) (c5 := m_drift_14) (wf := _) hA0 hsz hw hP hD hS) hS.2.2 dX7_minutesUntilCleared_22
  refine lv_aload_n hx hb dX7_minutesUntilCleared_0 rfl (lv_at hl 0 rfl) ?_
  refine lv_aload_n hx hb dX7_minutesUntilCleared_1 rfl (lv_at hl 0 rfl) ?_
  refine lv_iload_n hx hb dX7_minutesUntilCleared_2 rfl (lv_at hl 1 rfl) ?_
  refine gCi0 (gRunV (As := [.int x1]) (rest := [.ref (a_mo 0)]) ⟨hx, hb, hml, hown, hts⟩ (ctX7_isStreet l g a_mo a_ms a_mwas a_mtried a_msaved a_mpast a_mfar a_mdrift a_mline a_mtape a_mcommands _ m_changes m_thrown m_errorAt m_failedAt m_answer m_isSaved m_lined m_taped m_here m_commandMany m_s x1 hw) (cwV 1 hts gX7_minutesUntilCleared_X7_isStreet rfl rfl rfl (by decide +kernel) ⟨Nat.le_of_ble_eq_true rfl, Nat.le_of_ble_eq_true rfl⟩) hE (gSub hP [0, 1]) (gDSub hD [0, 1] rfl) 0 11 rfl rfl rfl rfl rfl hl.1 rfl (lv_room (Nat.le_of_ble_eq_true rfl)) dX7_minutesUntilCleared_3 ⟨Nat.le_of_ble_eq_true rfl, Nat.le_of_ble_eq_true rfl⟩) hP hD hS hA [0, 1] rfl rfl rfl (fun r1 H locs hw hP hD hS => ?_)
  have hP : va_P g.1 vwCl (List.flatten [kMo g a_mo a_ms a_mwas a_mtried a_msaved a_mpast a_mfar a_mdrift a_mline a_mtape a_mcommands m_changes m_thrown m_errorAt m_failedAt m_answer m_isSaved m_lined m_taped m_here m_commandMany, kAr g a_ms 130 m_s, kAr g a_mtried 130 m_tried, kAr g a_mfar 8 m_far, kAr g a_mdrift 12 m_drift]) H := hP
  have hD : va_D A (List.flatten [kMo g a_mo a_ms a_mwas a_mtried a_msaved a_mpast a_mfar a_mdrift a_mline a_mtape a_mcommands m_changes m_thrown m_errorAt m_failedAt m_answer m_isSaved m_lined m_taped m_here m_commandMany, kAr g a_ms 130 m_s, kAr g a_mtried 130 m_tried, kAr g a_mfar 8 m_far, kAr g a_mdrift 12 m_drift]) := hD
  refine lv_if_ne (tgt := 13) hx hb dX7_minutesUntilCleared_6 (by decide) (fun c_6 => ?_) (fun c_6 => ?_)
  · have hw := hw.1 c_6
    refine lv_iconst (v := 0) hx hb dX7_minutesUntilCleared_13 (by decide) ?_
    exact J14 0 m_thrown m_s m_tried m_far m_drift _ _ _ hw hP hD hS (lv_sub hl [0, 1] rfl)
  · have hw := hw.2 c_6
    refine lv_iconst (v := 1) hx hb dX7_minutesUntilCleared_9 (by decide) ?_
    refine lv_goto (tgt := 14) hx hb dX7_minutesUntilCleared_10 (by decide) ?_
    exact J14 1 m_thrown m_s m_tried m_far m_drift _ _ _ hw hP hD hS (lv_sub hl [0, 1] rfl)
abbrev rmX7_depthAfter : Room := { frames := 7, cells := 0, slots := 0, locals := 246 }
set_option maxRecDepth 20000 in
theorem inX7_depthAfter_X7 : ∀ w ∈ wsX70, w ∈ wsX7_depthAfter := by decide +kernel
set_option maxHeartbeats 4000000 in
set_option maxRecDepth 100000 in
theorem ctX7_depthAfter (l : Launch) (g : GG) (a_mo : Nat → Nat) (a_ms : Nat → Nat) (a_mwas : Nat → Nat) (a_mtried : Nat → Nat) (a_msaved : Nat → Nat) (a_mpast : Nat → Nat) (a_mfar : Nat → Nat) (a_mdrift : Nat → Nat) (a_mline : Nat → Nat) (a_mtape : Nat → Nat) (a_mcommands : Nat → Nat) (sz : Nat) (m_changes : Int32) (m_thrown : Int32) (m_errorAt : Int32) (m_failedAt : Int32) (m_answer : Int32) (m_isSaved : Int32) (m_lined : Int32) (m_taped : Int32) (m_here : Int32) (m_commandMany : Int32) (m_s : Nat → Int32) (m_tried : Nat → Int32) (m_far : Nat → Int32) (m_drift : Nat → Int32) (x1 : Int32) (x2 : Int32) {post : Int32 → Int32 → Int32 → (Nat → Int32) → (Nat → Int32) → (Nat → Int32) → (Nat → Int32) → Prop} (hw : wpX7_depthAfter x1 x2 m_thrown m_answer m_s m_tried m_far m_drift post) :
    Met l yX7_depthAfter wsX7_depthAfter rmX7_depthAfter (gPc g sz (List.flatten [kMo g a_mo a_ms a_mwas a_mtried a_msaved a_mpast a_mfar a_mdrift a_mline a_mtape a_mcommands m_changes m_thrown m_errorAt m_failedAt m_answer m_isSaved m_lined m_taped m_here m_commandMany, kAr g a_ms 130 m_s, kAr g a_mtried 130 m_tried, kAr g a_mfar 8 m_far, kAr g a_mdrift 12 m_drift]) [.ref (a_mo 0), .int x1, .int x2]) (gQi6 post (fun u1 u2 u3 u4 u5 u6 => gB g (List.flatten [kMo g a_mo a_ms a_mwas a_mtried a_msaved a_mpast a_mfar a_mdrift a_mline a_mtape a_mcommands m_changes m_thrown m_errorAt m_failedAt m_answer m_isSaved m_lined m_taped m_here m_commandMany, kAr g a_ms 130 m_s, kAr g a_mtried 130 m_tried, kAr g a_mfar 8 m_far, kAr g a_mdrift 12 m_drift]) sz (List.flatten [kMo g a_mo a_ms a_mwas a_mtried a_msaved a_mpast a_mfar a_mdrift a_mline a_mtape a_mcommands m_changes u1 m_errorAt m_failedAt u2 m_isSaved m_lined m_taped m_here m_commandMany, kAr g a_ms 130 u3, kAr g a_mtried 130 u4, kAr g a_mfar 8 u5, kAr g a_mdrift 12 u6])) (va_A (List.flatten [kMo g a_mo a_ms a_mwas a_mtried a_msaved a_mpast a_mfar a_mdrift a_mline a_mtape a_mcommands m_changes m_thrown m_errorAt m_failedAt m_answer m_isSaved m_lined m_taped m_here m_commandMany, kAr g a_ms 130 m_s, kAr g a_mtried 130 m_tried, kAr g a_mfar 8 m_far, kAr g a_mdrift 12 m_drift]) sz)) 0 0 (va_A (List.flatten [kMo g a_mo a_ms a_mwas a_mtried a_msaved a_mpast a_mfar a_mdrift a_mline a_mtape a_mcommands m_changes m_thrown m_errorAt m_failedAt m_answer m_isSaved m_lined m_taped m_here m_commandMany, kAr g a_ms 130 m_s, kAr g a_mtried 130 m_tried, kAr g a_mfar 8 m_far, kAr g a_mdrift 12 m_drift]) sz) := by
  refine gOf (cc := cX7_depthAfter) (maxL := 4) (ret := (some .int)) (by decide) rfl (Nat.le_of_ble_eq_true rfl) ?_
  intro p e s m below meth c ls Q A hQ hx hb hr hml hts hown hlocks hE hA0 hsz hP hD hA hS hl
  have hl : lv_has ls 4 [(0, .ref (a_mo 0)), (1, .int x1), (2, .int x2)] := hl
  have L62 : ∀ (n : Nat) (m_thrown_62 : Int32) (m_tried_62 : Nat → Int32) (x3_62 : Int32) (m_answer_62 : Int32) (m_s_62 : Nat → Int32) (m_far_62 : Nat → Int32) (m_drift_62 : Nat → Int32) (H : Heap) (locs : List Loc) (ls : Array Slot), wpX7_depthAfter_L62 x1 x2 m_thrown_62 m_tried_62 post n x3_62 m_answer_62 m_s_62 m_far_62 m_drift_62 → va_P g.1 vwCl (List.flatten [kMo g a_mo a_ms a_mwas a_mtried a_msaved a_mpast a_mfar a_mdrift a_mline a_mtape a_mcommands m_changes m_thrown_62 m_errorAt m_failedAt m_answer_62 m_isSaved m_lined m_taped m_here m_commandMany, kAr g a_ms 130 m_s_62, kAr g a_mtried 130 m_tried_62, kAr g a_mfar 8 m_far_62, kAr g a_mdrift 12 m_drift_62]) H → va_D A (List.flatten [kMo g a_mo a_ms a_mwas a_mtried a_msaved a_mpast a_mfar a_mdrift a_mline a_mtape a_mcommands m_changes m_thrown_62 m_errorAt m_failedAt m_answer_62 m_isSaved m_lined m_taped m_here m_commandMany, kAr g a_ms 130 m_s_62, kAr g a_mtried 130 m_tried_62, kAr g a_mfar 8 m_far_62, kAr g a_mdrift 12 m_drift_62]) → va_S A s.heap H locs → lv_has ls 4 [(0, .ref (a_mo 0)), (1, .int x1), (2, .int x2), (3, .int x3_62)] → W p l e rmX7_depthAfter s m (([.ref (a_mo 0), .int x1, .int x2] : List Value).toArray) below meth c H locs 0 0 Q (F0 m 62 ls []) := by
    intro n_62
    induction n_62 with
    | zero => intro m_thrown_62 m_tried_62 x3_62 m_answer_62 m_s_62 m_far_62 m_drift_62 H locs ls hw; exact False.elim hw
    | succ n_62 ih_62 =>
      intro m_thrown_62 m_tried_62 x3_62 m_answer_62 m_s_62 m_far_62 m_drift_62 H locs ls hw hP hD hS hl
      refine lv_iload_n hx hb dX7_depthAfter_62 rfl (lv_at hl 3 rfl) ?_
      refine lv_iload_n hx hb dX7_depthAfter_63 rfl (lv_at hl 2 rfl) ?_
      refine lv_icmp_ge (tgt := 90) hx hb dX7_depthAfter_64 (by decide) (fun c_64 => ?_) (fun c_64 => ?_)
      · have hw := hw.1 c_64
        refine lv_aload_n hx hb dX7_depthAfter_90 rfl (lv_at hl 0 rfl) ?_
        refine lv_iload_n hx hb dX7_depthAfter_91 rfl (lv_at hl 1 rfl) ?_
        refine lv_iconst (v := 4) hx hb dX7_depthAfter_92 (by decide) ?_
        refine gCi0 (gRunV (As := [.int x1, .int 4]) (rest := []) ⟨hx, hb, hml, hown, hts⟩ (ctX7_of l g a_mo a_ms a_mwas a_mtried a_msaved a_mpast a_mfar a_mdrift a_mline a_mtape a_mcommands _ m_changes m_thrown_62 m_errorAt m_failedAt m_answer_62 m_isSaved m_lined m_taped m_here m_commandMany m_s_62 x1 4 hw) (cwV 2 hts gX7_depthAfter_X7_of rfl rfl rfl (by decide +kernel) ⟨Nat.le_of_ble_eq_true rfl, Nat.le_of_ble_eq_true rfl⟩) hE (gSub hP [0, 1]) (gDSub hD [0, 1] rfl) 0 11 rfl rfl rfl rfl rfl hl.1 rfl (lv_room (Nat.le_of_ble_eq_true rfl)) dX7_depthAfter_93 ⟨Nat.le_of_ble_eq_true rfl, Nat.le_of_ble_eq_true rfl⟩) hP hD hS hA [0, 1] rfl rfl rfl (fun r6 H locs hw hP hD hS => ?_)
        have hP : va_P g.1 vwCl (List.flatten [kMo g a_mo a_ms a_mwas a_mtried a_msaved a_mpast a_mfar a_mdrift a_mline a_mtape a_mcommands m_changes m_thrown_62 m_errorAt m_failedAt m_answer_62 m_isSaved m_lined m_taped m_here m_commandMany, kAr g a_ms 130 m_s_62, kAr g a_mtried 130 m_tried_62, kAr g a_mfar 8 m_far_62, kAr g a_mdrift 12 m_drift_62]) H := hP
        have hD : va_D A (List.flatten [kMo g a_mo a_ms a_mwas a_mtried a_msaved a_mpast a_mfar a_mdrift a_mline a_mtape a_mcommands m_changes m_thrown_62 m_errorAt m_failedAt m_answer_62 m_isSaved m_lined m_taped m_here m_commandMany, kAr g a_ms 130 m_s_62, kAr g a_mtried 130 m_tried_62, kAr g a_mfar 8 m_far_62, kAr g a_mdrift 12 m_drift_62]) := hD
        refine lv_istore_n (lv' := [(3, .int r6), (0, .ref (a_mo 0)), (1, .int x1), (2, .int x2)]) hx hb dX7_depthAfter_96 rfl hl (by decide) rfl (fun ls hl => ?_)
        refine lv_aload_n hx hb dX7_depthAfter_97 rfl (lv_at hl 1 rfl) ?_
        refine va_get (D := g.1) (ci := 11) (v := .ref (a_mtried 0)) (C := RX7) (T := TX7) (N := 20) hx hb hts inX7_depthAfter_X7 hown hE.1 hP 0 rfl rfl 2 (by decide) (gW hts 2 (.fieldLink RX7 16 "SnowDispatcherModel" "tried" "[I") rfl) (fun _ h9 => h9) rfl dX7_depthAfter_98 ?_
        refine lv_iconst (v := 0) hx hb dX7_depthAfter_101 (by decide) ?_
        refine lv_aload_n hx hb dX7_depthAfter_102 rfl (lv_at hl 1 rfl) ?_
        refine va_get (D := g.1) (ci := 11) (v := .ref (a_ms 0)) (C := RX7) (T := TX7) (N := 20) hx hb hts inX7_depthAfter_X7 hown hE.1 hP 0 rfl rfl 0 (by decide) (gW hts 1 (.fieldLink RX7 9 "SnowDispatcherModel" "s" "[I") rfl) (fun _ h9 => h9) rfl dX7_depthAfter_103 ?_
        refine lv_iconst (v := 0) hx hb dX7_depthAfter_106 (by decide) ?_
        refine gCv1 (gRunS (As := [.ref (a_mtried 0), .int 0, .ref (a_ms 0), .int 0]) (rest := []) ⟨hx, hb, hml, hown, hts⟩ (ctX7_copies l g a_mtried a_ms _ 130 m_tried_62 130 m_s_62 0 0 hw) (va_cwS 4 hts gX7_depthAfter_X7_copies rfl rfl rfl (by decide +kernel) ⟨Nat.le_of_ble_eq_true rfl, Nat.le_of_ble_eq_true rfl⟩) hE (gSub hP [2, 1]) (gDSub hD [2, 1] rfl) rfl rfl hl.1 rfl (lv_room (Nat.le_of_ble_eq_true rfl)) dX7_depthAfter_107 ⟨Nat.le_of_ble_eq_true rfl, Nat.le_of_ble_eq_true rfl⟩) hP hD hS hA [2, 1] rfl (fun _ => rfl) rfl (fun m_s_v7 H locs hw hP hD hS => ?_)
        have hP : va_P g.1 vwCl (List.flatten [kMo g a_mo a_ms a_mwas a_mtried a_msaved a_mpast a_mfar a_mdrift a_mline a_mtape a_mcommands m_changes m_thrown_62 m_errorAt m_failedAt m_answer_62 m_isSaved m_lined m_taped m_here m_commandMany, kAr g a_ms 130 m_s_v7, kAr g a_mtried 130 m_tried_62, kAr g a_mfar 8 m_far_62, kAr g a_mdrift 12 m_drift_62]) H := hP
        have hD : va_D A (List.flatten [kMo g a_mo a_ms a_mwas a_mtried a_msaved a_mpast a_mfar a_mdrift a_mline a_mtape a_mcommands m_changes m_thrown_62 m_errorAt m_failedAt m_answer_62 m_isSaved m_lined m_taped m_here m_commandMany, kAr g a_ms 130 m_s_v7, kAr g a_mtried 130 m_tried_62, kAr g a_mfar 8 m_far_62, kAr g a_mdrift 12 m_drift_62]) := hD
        refine lv_iload_n hx hb dX7_depthAfter_110 rfl (lv_at hl 0 rfl) ?_
        subst hQ
        exact W.iret hx hb hr (gRi6 (c1 := m_thrown_62) (c2 := m_answer_62) (c3 := m_s_v7) (c4 := m_tried_62) (c5 := m_far_62) (c6 := m_drift_62) (wf := _) hA0 hsz hw hP hD hS) hS.2.2 dX7_depthAfter_111
      · have hw := hw.2 c_64
        refine lv_aload_n hx hb dX7_depthAfter_67 rfl (lv_at hl 0 rfl) ?_
        refine lv_aload_n hx hb dX7_depthAfter_68 rfl (lv_at hl 0 rfl) ?_
        refine lv_iload_n hx hb dX7_depthAfter_69 rfl (lv_at hl 1 rfl) ?_
        refine gCi3 (gRunV (As := [.int x1]) (rest := [.ref (a_mo 0)]) ⟨hx, hb, hml, hown, hts⟩ (ctX7_minutePasses l g a_mo a_ms a_mwas a_mtried a_msaved a_mpast a_mfar a_mdrift a_mline a_mtape a_mcommands _ m_changes m_thrown_62 m_errorAt m_failedAt m_answer_62 m_isSaved m_lined m_taped m_here m_commandMany m_s_62 m_far_62 m_drift_62 x1 hw) (cwV 1 hts gX7_depthAfter_X7_minutePasses rfl rfl rfl (by decide +kernel) ⟨Nat.le_of_ble_eq_true rfl, Nat.le_of_ble_eq_true rfl⟩) hE (gSub hP [0, 1, 3, 4]) (gDSub hD [0, 1, 3, 4] rfl) 0 11 rfl rfl rfl rfl rfl hl.1 rfl (lv_room (Nat.le_of_ble_eq_true rfl)) dX7_depthAfter_70 ⟨Nat.le_of_ble_eq_true rfl, Nat.le_of_ble_eq_true rfl⟩) hP hD hS hA [0, 1, 3, 4] rfl (fun _ _ _ => rfl) rfl (fun r8 m_s_v8 m_far_v8 m_drift_v8 H locs hw hP hD hS => ?_)
        have hP : va_P g.1 vwCl (List.flatten [kMo g a_mo a_ms a_mwas a_mtried a_msaved a_mpast a_mfar a_mdrift a_mline a_mtape a_mcommands m_changes m_thrown_62 m_errorAt m_failedAt m_answer_62 m_isSaved m_lined m_taped m_here m_commandMany, kAr g a_ms 130 m_s_v8, kAr g a_mtried 130 m_tried_62, kAr g a_mfar 8 m_far_v8, kAr g a_mdrift 12 m_drift_v8]) H := hP
        have hD : va_D A (List.flatten [kMo g a_mo a_ms a_mwas a_mtried a_msaved a_mpast a_mfar a_mdrift a_mline a_mtape a_mcommands m_changes m_thrown_62 m_errorAt m_failedAt m_answer_62 m_isSaved m_lined m_taped m_here m_commandMany, kAr g a_ms 130 m_s_v8, kAr g a_mtried 130 m_tried_62, kAr g a_mfar 8 m_far_v8, kAr g a_mdrift 12 m_drift_v8]) := hD
        refine lv_if_eq (tgt := 80) hx hb dX7_depthAfter_73 (by decide) (fun c_73 => ?_) (fun c_73 => ?_)
        · have hw := hw.1 c_73
          refine lv_iconst (v := 0) hx hb dX7_depthAfter_80 (by decide) ?_
          refine va_put (D := g.1) (ci := 11) (v := .int 0) (ty := .int) (C := RX7) (T := TX7) (N := 20) hx hb hts inX7_depthAfter_X7 tyX7 tyX7_ok nmX7 hown hE.1 hP hD hS 0 rfl rfl 11 (by decide) (gW hts 3 (.fieldLink RX7 162 "SnowDispatcherModel" "answer" "I") rfl) (fun _ h9 => h9) rfl (by decide +kernel) rfl rfl (Nat.le_of_ble_eq_true rfl) dX7_depthAfter_81 (fun H locs hP hD hS => ?_)
          have hP : va_P g.1 vwCl (List.flatten [kMo g a_mo a_ms a_mwas a_mtried a_msaved a_mpast a_mfar a_mdrift a_mline a_mtape a_mcommands m_changes m_thrown_62 m_errorAt m_failedAt 0 m_isSaved m_lined m_taped m_here m_commandMany, kAr g a_ms 130 m_s_v8, kAr g a_mtried 130 m_tried_62, kAr g a_mfar 8 m_far_v8, kAr g a_mdrift 12 m_drift_v8]) H := hP
          have hD : va_D A (List.flatten [kMo g a_mo a_ms a_mwas a_mtried a_msaved a_mpast a_mfar a_mdrift a_mline a_mtape a_mcommands m_changes m_thrown_62 m_errorAt m_failedAt 0 m_isSaved m_lined m_taped m_here m_commandMany, kAr g a_ms 130 m_s_v8, kAr g a_mtried 130 m_tried_62, kAr g a_mfar 8 m_far_v8, kAr g a_mdrift 12 m_drift_v8]) := hD
          refine lv_iinc (v := (x3_62 + 1)) (lv' := [(3, .int (x3_62 + 1)), (0, .ref (a_mo 0)), (1, .int x1), (2, .int x2)]) hx hb dX7_depthAfter_84 hl (k := 3) rfl rfl (by decide) rfl (fun ls hl => ?_)
          refine lv_goto (tgt := 62) hx hb dX7_depthAfter_87 (by decide) ?_
          exact ih_62 m_thrown_62 m_tried_62 (x3_62 + 1) 0 m_s_v8 m_far_v8 m_drift_v8 _ _ _ hw hP hD hS (lv_sub hl [1, 2, 3, 0] rfl)
        · have hw := hw.2 c_73
          refine lv_iconst (v := 1) hx hb dX7_depthAfter_76 (by decide) ?_
          refine lv_goto (tgt := 81) hx hb dX7_depthAfter_77 (by decide) ?_
          refine va_put (D := g.1) (ci := 11) (v := .int 1) (ty := .int) (C := RX7) (T := TX7) (N := 20) hx hb hts inX7_depthAfter_X7 tyX7 tyX7_ok nmX7 hown hE.1 hP hD hS 0 rfl rfl 11 (by decide) (gW hts 3 (.fieldLink RX7 162 "SnowDispatcherModel" "answer" "I") rfl) (fun _ h9 => h9) rfl (by decide +kernel) rfl rfl (Nat.le_of_ble_eq_true rfl) dX7_depthAfter_81 (fun H locs hP hD hS => ?_)
          have hP : va_P g.1 vwCl (List.flatten [kMo g a_mo a_ms a_mwas a_mtried a_msaved a_mpast a_mfar a_mdrift a_mline a_mtape a_mcommands m_changes m_thrown_62 m_errorAt m_failedAt 1 m_isSaved m_lined m_taped m_here m_commandMany, kAr g a_ms 130 m_s_v8, kAr g a_mtried 130 m_tried_62, kAr g a_mfar 8 m_far_v8, kAr g a_mdrift 12 m_drift_v8]) H := hP
          have hD : va_D A (List.flatten [kMo g a_mo a_ms a_mwas a_mtried a_msaved a_mpast a_mfar a_mdrift a_mline a_mtape a_mcommands m_changes m_thrown_62 m_errorAt m_failedAt 1 m_isSaved m_lined m_taped m_here m_commandMany, kAr g a_ms 130 m_s_v8, kAr g a_mtried 130 m_tried_62, kAr g a_mfar 8 m_far_v8, kAr g a_mdrift 12 m_drift_v8]) := hD
          refine lv_iinc (v := (x3_62 + 1)) (lv' := [(3, .int (x3_62 + 1)), (0, .ref (a_mo 0)), (1, .int x1), (2, .int x2)]) hx hb dX7_depthAfter_84 hl (k := 3) rfl rfl (by decide) rfl (fun ls hl => ?_)
          refine lv_goto (tgt := 62) hx hb dX7_depthAfter_87 (by decide) ?_
          exact ih_62 m_thrown_62 m_tried_62 (x3_62 + 1) 1 m_s_v8 m_far_v8 m_drift_v8 _ _ _ hw hP hD hS (lv_sub hl [1, 2, 3, 0] rfl)
  have J38 : ∀ (z1_38 : Int32) (m_thrown_38 : Int32) (m_answer_38 : Int32) (m_s_38 : Nat → Int32) (m_tried_38 : Nat → Int32) (m_far_38 : Nat → Int32) (m_drift_38 : Nat → Int32) (H : Heap) (locs : List Loc) (ls : Array Slot), wpX7_depthAfter_L38 x1 x2 post z1_38 m_thrown_38 m_answer_38 m_s_38 m_tried_38 m_far_38 m_drift_38 → va_P g.1 vwCl (List.flatten [kMo g a_mo a_ms a_mwas a_mtried a_msaved a_mpast a_mfar a_mdrift a_mline a_mtape a_mcommands m_changes m_thrown_38 m_errorAt m_failedAt m_answer_38 m_isSaved m_lined m_taped m_here m_commandMany, kAr g a_ms 130 m_s_38, kAr g a_mtried 130 m_tried_38, kAr g a_mfar 8 m_far_38, kAr g a_mdrift 12 m_drift_38]) H → va_D A (List.flatten [kMo g a_mo a_ms a_mwas a_mtried a_msaved a_mpast a_mfar a_mdrift a_mline a_mtape a_mcommands m_changes m_thrown_38 m_errorAt m_failedAt m_answer_38 m_isSaved m_lined m_taped m_here m_commandMany, kAr g a_ms 130 m_s_38, kAr g a_mtried 130 m_tried_38, kAr g a_mfar 8 m_far_38, kAr g a_mdrift 12 m_drift_38]) → va_S A s.heap H locs → lv_has ls 4 [(0, .ref (a_mo 0)), (1, .int x1), (2, .int x2)] → W p l e rmX7_depthAfter s m (([.ref (a_mo 0), .int x1, .int x2] : List Value).toArray) below meth c H locs 0 0 Q (F0 m 38 ls [.int z1_38, .ref (a_mo 0)]) := by
    intro z1_38 m_thrown_38 m_answer_38 m_s_38 m_tried_38 m_far_38 m_drift_38 H locs ls hw hP hD hS hl
    refine lv_iconst (v := 2) hx hb dX7_depthAfter_38 (by decide) ?_
    refine gCi1 (gRunV (As := [.int z1_38, .int 2]) (rest := []) ⟨hx, hb, hml, hown, hts⟩ (ctX7_isThrown l g a_mo a_ms a_mwas a_mtried a_msaved a_mpast a_mfar a_mdrift a_mline a_mtape a_mcommands _ m_changes m_thrown_38 m_errorAt m_failedAt m_answer_38 m_isSaved m_lined m_taped m_here m_commandMany z1_38 2 hw) (cwV 2 hts gX7_depthAfter_X7_isThrown rfl rfl rfl (by decide +kernel) ⟨Nat.le_of_ble_eq_true rfl, Nat.le_of_ble_eq_true rfl⟩) hE (gSub hP [0]) (gDSub hD [0] rfl) 0 11 rfl rfl rfl rfl rfl hl.1 rfl (lv_room (Nat.le_of_ble_eq_true rfl)) dX7_depthAfter_39 ⟨Nat.le_of_ble_eq_true rfl, Nat.le_of_ble_eq_true rfl⟩) hP hD hS hA [0] rfl (fun _ => rfl) rfl (fun r4 m_thrown_v4 H locs hw hP hD hS => ?_)
    have hP : va_P g.1 vwCl (List.flatten [kMo g a_mo a_ms a_mwas a_mtried a_msaved a_mpast a_mfar a_mdrift a_mline a_mtape a_mcommands m_changes m_thrown_v4 m_errorAt m_failedAt m_answer_38 m_isSaved m_lined m_taped m_here m_commandMany, kAr g a_ms 130 m_s_38, kAr g a_mtried 130 m_tried_38, kAr g a_mfar 8 m_far_38, kAr g a_mdrift 12 m_drift_38]) H := hP
    have hD : va_D A (List.flatten [kMo g a_mo a_ms a_mwas a_mtried a_msaved a_mpast a_mfar a_mdrift a_mline a_mtape a_mcommands m_changes m_thrown_v4 m_errorAt m_failedAt m_answer_38 m_isSaved m_lined m_taped m_here m_commandMany, kAr g a_ms 130 m_s_38, kAr g a_mtried 130 m_tried_38, kAr g a_mfar 8 m_far_38, kAr g a_mdrift 12 m_drift_38]) := hD
    refine lv_if_eq (tgt := 47) hx hb dX7_depthAfter_42 (by decide) (fun c_42 => ?_) (fun c_42 => ?_)
    · have hw := hw.1 c_42
      refine lv_aload_n hx hb dX7_depthAfter_47 rfl (lv_at hl 0 rfl) ?_
      refine va_get (D := g.1) (ci := 11) (v := .ref (a_ms 0)) (C := RX7) (T := TX7) (N := 20) hx hb hts inX7_depthAfter_X7 hown hE.1 hP 0 rfl rfl 0 (by decide) (gW hts 1 (.fieldLink RX7 9 "SnowDispatcherModel" "s" "[I") rfl) (fun _ h9 => h9) rfl dX7_depthAfter_48 ?_
      refine lv_iconst (v := 0) hx hb dX7_depthAfter_51 (by decide) ?_
      refine lv_aload_n hx hb dX7_depthAfter_52 rfl (lv_at hl 0 rfl) ?_
      refine va_get (D := g.1) (ci := 11) (v := .ref (a_mtried 0)) (C := RX7) (T := TX7) (N := 20) hx hb hts inX7_depthAfter_X7 hown hE.1 hP 0 rfl rfl 2 (by decide) (gW hts 2 (.fieldLink RX7 16 "SnowDispatcherModel" "tried" "[I") rfl) (fun _ h9 => h9) rfl dX7_depthAfter_53 ?_
      refine lv_iconst (v := 0) hx hb dX7_depthAfter_56 (by decide) ?_
      refine gCv1 (gRunS (As := [.ref (a_ms 0), .int 0, .ref (a_mtried 0), .int 0]) (rest := []) ⟨hx, hb, hml, hown, hts⟩ (ctX7_copies l g a_ms a_mtried _ 130 m_s_38 130 m_tried_38 0 0 hw) (va_cwS 4 hts gX7_depthAfter_X7_copies rfl rfl rfl (by decide +kernel) ⟨Nat.le_of_ble_eq_true rfl, Nat.le_of_ble_eq_true rfl⟩) hE (gSub hP [1, 2]) (gDSub hD [1, 2] rfl) rfl rfl hl.1 rfl (lv_room (Nat.le_of_ble_eq_true rfl)) dX7_depthAfter_57 ⟨Nat.le_of_ble_eq_true rfl, Nat.le_of_ble_eq_true rfl⟩) hP hD hS hA [1, 2] rfl (fun _ => rfl) rfl (fun m_tried_v5 H locs hw hP hD hS => ?_)
      have hP : va_P g.1 vwCl (List.flatten [kMo g a_mo a_ms a_mwas a_mtried a_msaved a_mpast a_mfar a_mdrift a_mline a_mtape a_mcommands m_changes m_thrown_v4 m_errorAt m_failedAt m_answer_38 m_isSaved m_lined m_taped m_here m_commandMany, kAr g a_ms 130 m_s_38, kAr g a_mtried 130 m_tried_v5, kAr g a_mfar 8 m_far_38, kAr g a_mdrift 12 m_drift_38]) H := hP
      have hD : va_D A (List.flatten [kMo g a_mo a_ms a_mwas a_mtried a_msaved a_mpast a_mfar a_mdrift a_mline a_mtape a_mcommands m_changes m_thrown_v4 m_errorAt m_failedAt m_answer_38 m_isSaved m_lined m_taped m_here m_commandMany, kAr g a_ms 130 m_s_38, kAr g a_mtried 130 m_tried_v5, kAr g a_mfar 8 m_far_38, kAr g a_mdrift 12 m_drift_38]) := hD
      refine lv_iconst (v := 0) hx hb dX7_depthAfter_60 (by decide) ?_
      refine lv_istore_n (lv' := [(3, .int 0), (0, .ref (a_mo 0)), (1, .int x1), (2, .int x2)]) hx hb dX7_depthAfter_61 rfl hl (by decide) rfl (fun ls hl => ?_)
      obtain ⟨n, hw⟩ := hw
      exact L62 n m_thrown_v4 m_tried_v5 0 m_answer_38 m_s_38 m_far_38 m_drift_38 _ _ _ hw hP hD hS (lv_sub hl [1, 2, 3, 0] rfl)
    · have hw := hw.2 c_42
      refine lv_iconst (v := 0) hx hb dX7_depthAfter_45 (by decide) ?_
      subst hQ
      exact W.iret hx hb hr (gRi6 (c1 := m_thrown_v4) (c2 := m_answer_38) (c3 := m_s_38) (c4 := m_tried_38) (c5 := m_far_38) (c6 := m_drift_38) (wf := _) hA0 hsz hw hP hD hS) hS.2.2 dX7_depthAfter_46
  have J14 : ∀ (z1_14 : Int32) (m_thrown_14 : Int32) (m_answer_14 : Int32) (m_s_14 : Nat → Int32) (m_tried_14 : Nat → Int32) (m_far_14 : Nat → Int32) (m_drift_14 : Nat → Int32) (H : Heap) (locs : List Loc) (ls : Array Slot), wpX7_depthAfter_L14 x1 x2 post z1_14 m_thrown_14 m_answer_14 m_s_14 m_tried_14 m_far_14 m_drift_14 → va_P g.1 vwCl (List.flatten [kMo g a_mo a_ms a_mwas a_mtried a_msaved a_mpast a_mfar a_mdrift a_mline a_mtape a_mcommands m_changes m_thrown_14 m_errorAt m_failedAt m_answer_14 m_isSaved m_lined m_taped m_here m_commandMany, kAr g a_ms 130 m_s_14, kAr g a_mtried 130 m_tried_14, kAr g a_mfar 8 m_far_14, kAr g a_mdrift 12 m_drift_14]) H → va_D A (List.flatten [kMo g a_mo a_ms a_mwas a_mtried a_msaved a_mpast a_mfar a_mdrift a_mline a_mtape a_mcommands m_changes m_thrown_14 m_errorAt m_failedAt m_answer_14 m_isSaved m_lined m_taped m_here m_commandMany, kAr g a_ms 130 m_s_14, kAr g a_mtried 130 m_tried_14, kAr g a_mfar 8 m_far_14, kAr g a_mdrift 12 m_drift_14]) → va_S A s.heap H locs → lv_has ls 4 [(0, .ref (a_mo 0)), (1, .int x1), (2, .int x2)] → W p l e rmX7_depthAfter s m (([.ref (a_mo 0), .int x1, .int x2] : List Value).toArray) below meth c H locs 0 0 Q (F0 m 14 ls [.int z1_14, .ref (a_mo 0)]) := by
    intro z1_14 m_thrown_14 m_answer_14 m_s_14 m_tried_14 m_far_14 m_drift_14 H locs ls hw hP hD hS hl
    refine lv_iconst (v := 1) hx hb dX7_depthAfter_14 (by decide) ?_
    refine gCi1 (gRunV (As := [.int z1_14, .int 1]) (rest := []) ⟨hx, hb, hml, hown, hts⟩ (ctX7_isThrown l g a_mo a_ms a_mwas a_mtried a_msaved a_mpast a_mfar a_mdrift a_mline a_mtape a_mcommands _ m_changes m_thrown_14 m_errorAt m_failedAt m_answer_14 m_isSaved m_lined m_taped m_here m_commandMany z1_14 1 hw) (cwV 2 hts gX7_depthAfter_X7_isThrown rfl rfl rfl (by decide +kernel) ⟨Nat.le_of_ble_eq_true rfl, Nat.le_of_ble_eq_true rfl⟩) hE (gSub hP [0]) (gDSub hD [0] rfl) 0 11 rfl rfl rfl rfl rfl hl.1 rfl (lv_room (Nat.le_of_ble_eq_true rfl)) dX7_depthAfter_15 ⟨Nat.le_of_ble_eq_true rfl, Nat.le_of_ble_eq_true rfl⟩) hP hD hS hA [0] rfl (fun _ => rfl) rfl (fun r2 m_thrown_v2 H locs hw hP hD hS => ?_)
    have hP : va_P g.1 vwCl (List.flatten [kMo g a_mo a_ms a_mwas a_mtried a_msaved a_mpast a_mfar a_mdrift a_mline a_mtape a_mcommands m_changes m_thrown_v2 m_errorAt m_failedAt m_answer_14 m_isSaved m_lined m_taped m_here m_commandMany, kAr g a_ms 130 m_s_14, kAr g a_mtried 130 m_tried_14, kAr g a_mfar 8 m_far_14, kAr g a_mdrift 12 m_drift_14]) H := hP
    have hD : va_D A (List.flatten [kMo g a_mo a_ms a_mwas a_mtried a_msaved a_mpast a_mfar a_mdrift a_mline a_mtape a_mcommands m_changes m_thrown_v2 m_errorAt m_failedAt m_answer_14 m_isSaved m_lined m_taped m_here m_commandMany, kAr g a_ms 130 m_s_14, kAr g a_mtried 130 m_tried_14, kAr g a_mfar 8 m_far_14, kAr g a_mdrift 12 m_drift_14]) := hD
    refine lv_if_ne (tgt := 45) hx hb dX7_depthAfter_18 (by decide) (fun c_18 => ?_) (fun c_18 => ?_)
    · have hw := hw.1 c_18
      refine lv_iconst (v := 0) hx hb dX7_depthAfter_45 (by decide) ?_
      subst hQ
      exact W.iret hx hb hr (gRi6 (c1 := m_thrown_v2) (c2 := m_answer_14) (c3 := m_s_14) (c4 := m_tried_14) (c5 := m_far_14) (c6 := m_drift_14) (wf := _) hA0 hsz hw hP hD hS) hS.2.2 dX7_depthAfter_46
    · have hw := hw.2 c_18
      refine lv_aload_n hx hb dX7_depthAfter_21 rfl (lv_at hl 0 rfl) ?_
      refine lv_iload_n hx hb dX7_depthAfter_22 rfl (lv_at hl 2 rfl) ?_
      refine lv_iconst (v := 0) hx hb dX7_depthAfter_23 (by decide) ?_
      refine lv_sipush (v := 600) hx hb dX7_depthAfter_24 (by decide) ?_
      refine gCi0 (gRunS (As := [.int x2, .int 0, .int 600]) (rest := [.ref (a_mo 0)]) ⟨hx, hb, hml, hown, hts⟩ (ctX7_isIn l g _ x2 0 600 hw) (va_cwS 3 hts gX7_depthAfter_X7_isIn rfl rfl rfl (by decide +kernel) ⟨Nat.le_of_ble_eq_true rfl, Nat.le_of_ble_eq_true rfl⟩) hE (gSub hP []) (gDSub hD [] rfl) rfl rfl hl.1 rfl (lv_room (Nat.le_of_ble_eq_true rfl)) dX7_depthAfter_27 ⟨Nat.le_of_ble_eq_true rfl, Nat.le_of_ble_eq_true rfl⟩) hP hD hS hA [] rfl rfl rfl (fun r3 H locs hw hP hD hS => ?_)
      have hP : va_P g.1 vwCl (List.flatten [kMo g a_mo a_ms a_mwas a_mtried a_msaved a_mpast a_mfar a_mdrift a_mline a_mtape a_mcommands m_changes m_thrown_v2 m_errorAt m_failedAt m_answer_14 m_isSaved m_lined m_taped m_here m_commandMany, kAr g a_ms 130 m_s_14, kAr g a_mtried 130 m_tried_14, kAr g a_mfar 8 m_far_14, kAr g a_mdrift 12 m_drift_14]) H := hP
      have hD : va_D A (List.flatten [kMo g a_mo a_ms a_mwas a_mtried a_msaved a_mpast a_mfar a_mdrift a_mline a_mtape a_mcommands m_changes m_thrown_v2 m_errorAt m_failedAt m_answer_14 m_isSaved m_lined m_taped m_here m_commandMany, kAr g a_ms 130 m_s_14, kAr g a_mtried 130 m_tried_14, kAr g a_mfar 8 m_far_14, kAr g a_mdrift 12 m_drift_14]) := hD
      refine lv_if_ne (tgt := 37) hx hb dX7_depthAfter_30 (by decide) (fun c_30 => ?_) (fun c_30 => ?_)
      · have hw := hw.1 c_30
        refine lv_iconst (v := 0) hx hb dX7_depthAfter_37 (by decide) ?_
        exact J38 0 m_thrown_v2 m_answer_14 m_s_14 m_tried_14 m_far_14 m_drift_14 _ _ _ hw hP hD hS (lv_sub hl [0, 1, 2] rfl)
      · have hw := hw.2 c_30
        refine lv_iconst (v := 1) hx hb dX7_depthAfter_33 (by decide) ?_
        refine lv_goto (tgt := 38) hx hb dX7_depthAfter_34 (by decide) ?_
        exact J38 1 m_thrown_v2 m_answer_14 m_s_14 m_tried_14 m_far_14 m_drift_14 _ _ _ hw hP hD hS (lv_sub hl [0, 1, 2] rfl)
  refine lv_aload_n hx hb dX7_depthAfter_0 rfl (lv_at hl 0 rfl) ?_
  refine lv_aload_n hx hb dX7_depthAfter_1 rfl (lv_at hl 0 rfl) ?_
  refine lv_iload_n hx hb dX7_depthAfter_2 rfl (lv_at hl 1 rfl) ?_
  refine gCi0 (gRunV (As := [.int x1]) (rest := [.ref (a_mo 0)]) ⟨hx, hb, hml, hown, hts⟩ (ctX7_isStreet l g a_mo a_ms a_mwas a_mtried a_msaved a_mpast a_mfar a_mdrift a_mline a_mtape a_mcommands _ m_changes m_thrown m_errorAt m_failedAt m_answer m_isSaved m_lined m_taped m_here m_commandMany m_s x1 hw) (cwV 1 hts gX7_depthAfter_X7_isStreet rfl rfl rfl (by decide +kernel) ⟨Nat.le_of_ble_eq_true rfl, Nat.le_of_ble_eq_true rfl⟩) hE (gSub hP [0, 1]) (gDSub hD [0, 1] rfl) 0 11 rfl rfl rfl rfl rfl hl.1 rfl (lv_room (Nat.le_of_ble_eq_true rfl)) dX7_depthAfter_3 ⟨Nat.le_of_ble_eq_true rfl, Nat.le_of_ble_eq_true rfl⟩) hP hD hS hA [0, 1] rfl rfl rfl (fun r1 H locs hw hP hD hS => ?_)
  have hP : va_P g.1 vwCl (List.flatten [kMo g a_mo a_ms a_mwas a_mtried a_msaved a_mpast a_mfar a_mdrift a_mline a_mtape a_mcommands m_changes m_thrown m_errorAt m_failedAt m_answer m_isSaved m_lined m_taped m_here m_commandMany, kAr g a_ms 130 m_s, kAr g a_mtried 130 m_tried, kAr g a_mfar 8 m_far, kAr g a_mdrift 12 m_drift]) H := hP
  have hD : va_D A (List.flatten [kMo g a_mo a_ms a_mwas a_mtried a_msaved a_mpast a_mfar a_mdrift a_mline a_mtape a_mcommands m_changes m_thrown m_errorAt m_failedAt m_answer m_isSaved m_lined m_taped m_here m_commandMany, kAr g a_ms 130 m_s, kAr g a_mtried 130 m_tried, kAr g a_mfar 8 m_far, kAr g a_mdrift 12 m_drift]) := hD
  refine lv_if_ne (tgt := 13) hx hb dX7_depthAfter_6 (by decide) (fun c_6 => ?_) (fun c_6 => ?_)
  · have hw := hw.1 c_6
    refine lv_iconst (v := 0) hx hb dX7_depthAfter_13 (by decide) ?_
    exact J14 0 m_thrown m_answer m_s m_tried m_far m_drift _ _ _ hw hP hD hS (lv_sub hl [0, 1, 2] rfl)
  · have hw := hw.2 c_6
    refine lv_iconst (v := 1) hx hb dX7_depthAfter_9 (by decide) ?_
    refine lv_goto (tgt := 14) hx hb dX7_depthAfter_10 (by decide) ?_
    exact J14 1 m_thrown m_answer m_s m_tried m_far m_drift _ _ _ hw hP hD hS (lv_sub hl [0, 1, 2] rfl)
abbrev rmX7_time : Room := { frames := 1, cells := 0, slots := 0, locals := 100 }
set_option maxRecDepth 20000 in
theorem inX7_time_X7 : ∀ w ∈ wsX70, w ∈ wsX7_time := by decide +kernel
set_option maxHeartbeats 4000000 in
set_option maxRecDepth 100000 in
theorem ctX7_time (l : Launch) (g : GG) (a_mo : Nat → Nat) (a_ms : Nat → Nat) (a_mwas : Nat → Nat) (a_mtried : Nat → Nat) (a_msaved : Nat → Nat) (a_mpast : Nat → Nat) (a_mfar : Nat → Nat) (a_mdrift : Nat → Nat) (a_mline : Nat → Nat) (a_mtape : Nat → Nat) (a_mcommands : Nat → Nat) (sz : Nat) (m_changes : Int32) (m_thrown : Int32) (m_errorAt : Int32) (m_failedAt : Int32) (m_answer : Int32) (m_isSaved : Int32) (m_lined : Int32) (m_taped : Int32) (m_here : Int32) (m_commandMany : Int32) (m_s : Nat → Int32) {post : Int32 → Int32 → Prop} (hw : wpX7_time m_thrown m_s post) :
    Met l yX7_time wsX7_time rmX7_time (gPc g sz (List.flatten [kMo g a_mo a_ms a_mwas a_mtried a_msaved a_mpast a_mfar a_mdrift a_mline a_mtape a_mcommands m_changes m_thrown m_errorAt m_failedAt m_answer m_isSaved m_lined m_taped m_here m_commandMany, kAr g a_ms 130 m_s]) [.ref (a_mo 0)]) (gQi1 post (fun u1 => gB g (List.flatten [kMo g a_mo a_ms a_mwas a_mtried a_msaved a_mpast a_mfar a_mdrift a_mline a_mtape a_mcommands m_changes m_thrown m_errorAt m_failedAt m_answer m_isSaved m_lined m_taped m_here m_commandMany, kAr g a_ms 130 m_s]) sz (List.flatten [kMo g a_mo a_ms a_mwas a_mtried a_msaved a_mpast a_mfar a_mdrift a_mline a_mtape a_mcommands m_changes u1 m_errorAt m_failedAt m_answer m_isSaved m_lined m_taped m_here m_commandMany, kAr g a_ms 130 m_s])) (va_A (List.flatten [kMo g a_mo a_ms a_mwas a_mtried a_msaved a_mpast a_mfar a_mdrift a_mline a_mtape a_mcommands m_changes m_thrown m_errorAt m_failedAt m_answer m_isSaved m_lined m_taped m_here m_commandMany, kAr g a_ms 130 m_s]) sz)) 0 0 (va_A (List.flatten [kMo g a_mo a_ms a_mwas a_mtried a_msaved a_mpast a_mfar a_mdrift a_mline a_mtape a_mcommands m_changes m_thrown m_errorAt m_failedAt m_answer m_isSaved m_lined m_taped m_here m_commandMany, kAr g a_ms 130 m_s]) sz) := by
  refine gOf (cc := cX7_time) (maxL := 1) (ret := (some .int)) (by decide) rfl (Nat.le_of_ble_eq_true rfl) ?_
  intro p e s m below meth c ls Q A hQ hx hb hr hml hts hown hlocks hE hA0 hsz hP hD hA hS hl
  have hl : lv_has ls 1 [(0, .ref (a_mo 0))] := hl
  refine lv_aload_n hx hb dX7_time_0 rfl (lv_at hl 0 rfl) ?_
  refine lv_iconst (v := 0) hx hb dX7_time_1 (by decide) ?_
  refine va_put (D := g.1) (ci := 11) (v := .int 0) (ty := .int) (C := RX7) (T := TX7) (N := 20) hx hb hts inX7_time_X7 tyX7 tyX7_ok nmX7 hown hE.1 hP hD hS 0 rfl rfl 8 (by decide) (gW hts 1 (.fieldLink RX7 47 "SnowDispatcherModel" "thrown" "I") rfl) (fun _ h9 => h9) rfl (by decide +kernel) rfl rfl (Nat.le_of_ble_eq_true rfl) dX7_time_2 (fun H locs hP hD hS => ?_)
  have hP : va_P g.1 vwCl (List.flatten [kMo g a_mo a_ms a_mwas a_mtried a_msaved a_mpast a_mfar a_mdrift a_mline a_mtape a_mcommands m_changes 0 m_errorAt m_failedAt m_answer m_isSaved m_lined m_taped m_here m_commandMany, kAr g a_ms 130 m_s]) H := hP
  have hD : va_D A (List.flatten [kMo g a_mo a_ms a_mwas a_mtried a_msaved a_mpast a_mfar a_mdrift a_mline a_mtape a_mcommands m_changes 0 m_errorAt m_failedAt m_answer m_isSaved m_lined m_taped m_here m_commandMany, kAr g a_ms 130 m_s]) := hD
  refine lv_aload_n hx hb dX7_time_5 rfl (lv_at hl 0 rfl) ?_
  refine va_get (D := g.1) (ci := 11) (v := .ref (a_ms 0)) (C := RX7) (T := TX7) (N := 20) hx hb hts inX7_time_X7 hown hE.1 hP 0 rfl rfl 0 (by decide) (gW hts 2 (.fieldLink RX7 9 "SnowDispatcherModel" "s" "[I") rfl) (fun _ h9 => h9) rfl dX7_time_6 ?_
  refine lv_iconst (v := 0) hx hb dX7_time_9 (by decide) ?_
  have h1 := hw.1
  have hw := hw.2
  refine va_iald hx hb hE.1 hP 1 0 rfl rfl h1 dX7_time_10 ?_
  subst hQ
  exact W.iret hx hb hr (gRi1 (c1 := 0) (wf := _) hA0 hsz hw hP hD hS) hS.2.2 dX7_time_11
abbrev rmX7_saltStore : Room := { frames := 1, cells := 0, slots := 0, locals := 100 }
set_option maxRecDepth 20000 in
theorem inX7_saltStore_X7 : ∀ w ∈ wsX70, w ∈ wsX7_saltStore := by decide +kernel
set_option maxHeartbeats 4000000 in
set_option maxRecDepth 100000 in
theorem ctX7_saltStore (l : Launch) (g : GG) (a_mo : Nat → Nat) (a_ms : Nat → Nat) (a_mwas : Nat → Nat) (a_mtried : Nat → Nat) (a_msaved : Nat → Nat) (a_mpast : Nat → Nat) (a_mfar : Nat → Nat) (a_mdrift : Nat → Nat) (a_mline : Nat → Nat) (a_mtape : Nat → Nat) (a_mcommands : Nat → Nat) (sz : Nat) (m_changes : Int32) (m_thrown : Int32) (m_errorAt : Int32) (m_failedAt : Int32) (m_answer : Int32) (m_isSaved : Int32) (m_lined : Int32) (m_taped : Int32) (m_here : Int32) (m_commandMany : Int32) (m_s : Nat → Int32) {post : Int32 → Int32 → Prop} (hw : wpX7_saltStore m_thrown m_s post) :
    Met l yX7_saltStore wsX7_saltStore rmX7_saltStore (gPc g sz (List.flatten [kMo g a_mo a_ms a_mwas a_mtried a_msaved a_mpast a_mfar a_mdrift a_mline a_mtape a_mcommands m_changes m_thrown m_errorAt m_failedAt m_answer m_isSaved m_lined m_taped m_here m_commandMany, kAr g a_ms 130 m_s]) [.ref (a_mo 0)]) (gQi1 post (fun u1 => gB g (List.flatten [kMo g a_mo a_ms a_mwas a_mtried a_msaved a_mpast a_mfar a_mdrift a_mline a_mtape a_mcommands m_changes m_thrown m_errorAt m_failedAt m_answer m_isSaved m_lined m_taped m_here m_commandMany, kAr g a_ms 130 m_s]) sz (List.flatten [kMo g a_mo a_ms a_mwas a_mtried a_msaved a_mpast a_mfar a_mdrift a_mline a_mtape a_mcommands m_changes u1 m_errorAt m_failedAt m_answer m_isSaved m_lined m_taped m_here m_commandMany, kAr g a_ms 130 m_s])) (va_A (List.flatten [kMo g a_mo a_ms a_mwas a_mtried a_msaved a_mpast a_mfar a_mdrift a_mline a_mtape a_mcommands m_changes m_thrown m_errorAt m_failedAt m_answer m_isSaved m_lined m_taped m_here m_commandMany, kAr g a_ms 130 m_s]) sz)) 0 0 (va_A (List.flatten [kMo g a_mo a_ms a_mwas a_mtried a_msaved a_mpast a_mfar a_mdrift a_mline a_mtape a_mcommands m_changes m_thrown m_errorAt m_failedAt m_answer m_isSaved m_lined m_taped m_here m_commandMany, kAr g a_ms 130 m_s]) sz) := by
  refine gOf (cc := cX7_saltStore) (maxL := 1) (ret := (some .int)) (by decide) rfl (Nat.le_of_ble_eq_true rfl) ?_
  intro p e s m below meth c ls Q A hQ hx hb hr hml hts hown hlocks hE hA0 hsz hP hD hA hS hl
  have hl : lv_has ls 1 [(0, .ref (a_mo 0))] := hl
  refine lv_aload_n hx hb dX7_saltStore_0 rfl (lv_at hl 0 rfl) ?_
  refine lv_iconst (v := 0) hx hb dX7_saltStore_1 (by decide) ?_
  refine va_put (D := g.1) (ci := 11) (v := .int 0) (ty := .int) (C := RX7) (T := TX7) (N := 20) hx hb hts inX7_saltStore_X7 tyX7 tyX7_ok nmX7 hown hE.1 hP hD hS 0 rfl rfl 8 (by decide) (gW hts 1 (.fieldLink RX7 47 "SnowDispatcherModel" "thrown" "I") rfl) (fun _ h9 => h9) rfl (by decide +kernel) rfl rfl (Nat.le_of_ble_eq_true rfl) dX7_saltStore_2 (fun H locs hP hD hS => ?_)
  have hP : va_P g.1 vwCl (List.flatten [kMo g a_mo a_ms a_mwas a_mtried a_msaved a_mpast a_mfar a_mdrift a_mline a_mtape a_mcommands m_changes 0 m_errorAt m_failedAt m_answer m_isSaved m_lined m_taped m_here m_commandMany, kAr g a_ms 130 m_s]) H := hP
  have hD : va_D A (List.flatten [kMo g a_mo a_ms a_mwas a_mtried a_msaved a_mpast a_mfar a_mdrift a_mline a_mtape a_mcommands m_changes 0 m_errorAt m_failedAt m_answer m_isSaved m_lined m_taped m_here m_commandMany, kAr g a_ms 130 m_s]) := hD
  refine lv_aload_n hx hb dX7_saltStore_5 rfl (lv_at hl 0 rfl) ?_
  refine va_get (D := g.1) (ci := 11) (v := .ref (a_ms 0)) (C := RX7) (T := TX7) (N := 20) hx hb hts inX7_saltStore_X7 hown hE.1 hP 0 rfl rfl 0 (by decide) (gW hts 2 (.fieldLink RX7 9 "SnowDispatcherModel" "s" "[I") rfl) (fun _ h9 => h9) rfl dX7_saltStore_6 ?_
  refine lv_iconst (v := 3) hx hb dX7_saltStore_9 (by decide) ?_
  have h1 := hw.1
  have hw := hw.2
  refine va_iald hx hb hE.1 hP 1 0 rfl rfl h1 dX7_saltStore_10 ?_
  subst hQ
  exact W.iret hx hb hr (gRi1 (c1 := 0) (wf := _) hA0 hsz hw hP hD hS) hS.2.2 dX7_saltStore_11
abbrev rmX7_snowfall : Room := { frames := 1, cells := 0, slots := 0, locals := 100 }
set_option maxRecDepth 20000 in
theorem inX7_snowfall_X7 : ∀ w ∈ wsX70, w ∈ wsX7_snowfall := by decide +kernel
set_option maxHeartbeats 4000000 in
set_option maxRecDepth 100000 in
theorem ctX7_snowfall (l : Launch) (g : GG) (a_mo : Nat → Nat) (a_ms : Nat → Nat) (a_mwas : Nat → Nat) (a_mtried : Nat → Nat) (a_msaved : Nat → Nat) (a_mpast : Nat → Nat) (a_mfar : Nat → Nat) (a_mdrift : Nat → Nat) (a_mline : Nat → Nat) (a_mtape : Nat → Nat) (a_mcommands : Nat → Nat) (sz : Nat) (m_changes : Int32) (m_thrown : Int32) (m_errorAt : Int32) (m_failedAt : Int32) (m_answer : Int32) (m_isSaved : Int32) (m_lined : Int32) (m_taped : Int32) (m_here : Int32) (m_commandMany : Int32) (m_s : Nat → Int32) {post : Int32 → Int32 → Prop} (hw : wpX7_snowfall m_thrown m_s post) :
    Met l yX7_snowfall wsX7_snowfall rmX7_snowfall (gPc g sz (List.flatten [kMo g a_mo a_ms a_mwas a_mtried a_msaved a_mpast a_mfar a_mdrift a_mline a_mtape a_mcommands m_changes m_thrown m_errorAt m_failedAt m_answer m_isSaved m_lined m_taped m_here m_commandMany, kAr g a_ms 130 m_s]) [.ref (a_mo 0)]) (gQi1 post (fun u1 => gB g (List.flatten [kMo g a_mo a_ms a_mwas a_mtried a_msaved a_mpast a_mfar a_mdrift a_mline a_mtape a_mcommands m_changes m_thrown m_errorAt m_failedAt m_answer m_isSaved m_lined m_taped m_here m_commandMany, kAr g a_ms 130 m_s]) sz (List.flatten [kMo g a_mo a_ms a_mwas a_mtried a_msaved a_mpast a_mfar a_mdrift a_mline a_mtape a_mcommands m_changes u1 m_errorAt m_failedAt m_answer m_isSaved m_lined m_taped m_here m_commandMany, kAr g a_ms 130 m_s])) (va_A (List.flatten [kMo g a_mo a_ms a_mwas a_mtried a_msaved a_mpast a_mfar a_mdrift a_mline a_mtape a_mcommands m_changes m_thrown m_errorAt m_failedAt m_answer m_isSaved m_lined m_taped m_here m_commandMany, kAr g a_ms 130 m_s]) sz)) 0 0 (va_A (List.flatten [kMo g a_mo a_ms a_mwas a_mtried a_msaved a_mpast a_mfar a_mdrift a_mline a_mtape a_mcommands m_changes m_thrown m_errorAt m_failedAt m_answer m_isSaved m_lined m_taped m_here m_commandMany, kAr g a_ms 130 m_s]) sz) := by
  refine gOf (cc := cX7_snowfall) (maxL := 1) (ret := (some .int)) (by decide) rfl (Nat.le_of_ble_eq_true rfl) ?_
  intro p e s m below meth c ls Q A hQ hx hb hr hml hts hown hlocks hE hA0 hsz hP hD hA hS hl
  have hl : lv_has ls 1 [(0, .ref (a_mo 0))] := hl
  refine lv_aload_n hx hb dX7_snowfall_0 rfl (lv_at hl 0 rfl) ?_
  refine lv_iconst (v := 0) hx hb dX7_snowfall_1 (by decide) ?_
  refine va_put (D := g.1) (ci := 11) (v := .int 0) (ty := .int) (C := RX7) (T := TX7) (N := 20) hx hb hts inX7_snowfall_X7 tyX7 tyX7_ok nmX7 hown hE.1 hP hD hS 0 rfl rfl 8 (by decide) (gW hts 1 (.fieldLink RX7 47 "SnowDispatcherModel" "thrown" "I") rfl) (fun _ h9 => h9) rfl (by decide +kernel) rfl rfl (Nat.le_of_ble_eq_true rfl) dX7_snowfall_2 (fun H locs hP hD hS => ?_)
  have hP : va_P g.1 vwCl (List.flatten [kMo g a_mo a_ms a_mwas a_mtried a_msaved a_mpast a_mfar a_mdrift a_mline a_mtape a_mcommands m_changes 0 m_errorAt m_failedAt m_answer m_isSaved m_lined m_taped m_here m_commandMany, kAr g a_ms 130 m_s]) H := hP
  have hD : va_D A (List.flatten [kMo g a_mo a_ms a_mwas a_mtried a_msaved a_mpast a_mfar a_mdrift a_mline a_mtape a_mcommands m_changes 0 m_errorAt m_failedAt m_answer m_isSaved m_lined m_taped m_here m_commandMany, kAr g a_ms 130 m_s]) := hD
  refine lv_aload_n hx hb dX7_snowfall_5 rfl (lv_at hl 0 rfl) ?_
  refine va_get (D := g.1) (ci := 11) (v := .ref (a_ms 0)) (C := RX7) (T := TX7) (N := 20) hx hb hts inX7_snowfall_X7 hown hE.1 hP 0 rfl rfl 0 (by decide) (gW hts 2 (.fieldLink RX7 9 "SnowDispatcherModel" "s" "[I") rfl) (fun _ h9 => h9) rfl dX7_snowfall_6 ?_
  refine lv_iconst (v := 4) hx hb dX7_snowfall_9 (by decide) ?_
  have h1 := hw.1
  have hw := hw.2
  refine va_iald hx hb hE.1 hP 1 0 rfl rfl h1 dX7_snowfall_10 ?_
  subst hQ
  exact W.iret hx hb hr (gRi1 (c1 := 0) (wf := _) hA0 hsz hw hP hD hS) hS.2.2 dX7_snowfall_11
abbrev rmX7_wind : Room := { frames := 1, cells := 0, slots := 0, locals := 100 }
set_option maxRecDepth 20000 in
theorem inX7_wind_X7 : ∀ w ∈ wsX70, w ∈ wsX7_wind := by decide +kernel
set_option maxHeartbeats 4000000 in
set_option maxRecDepth 100000 in
theorem ctX7_wind (l : Launch) (g : GG) (a_mo : Nat → Nat) (a_ms : Nat → Nat) (a_mwas : Nat → Nat) (a_mtried : Nat → Nat) (a_msaved : Nat → Nat) (a_mpast : Nat → Nat) (a_mfar : Nat → Nat) (a_mdrift : Nat → Nat) (a_mline : Nat → Nat) (a_mtape : Nat → Nat) (a_mcommands : Nat → Nat) (sz : Nat) (m_changes : Int32) (m_thrown : Int32) (m_errorAt : Int32) (m_failedAt : Int32) (m_answer : Int32) (m_isSaved : Int32) (m_lined : Int32) (m_taped : Int32) (m_here : Int32) (m_commandMany : Int32) (m_s : Nat → Int32) {post : Int32 → Int32 → Prop} (hw : wpX7_wind m_thrown m_s post) :
    Met l yX7_wind wsX7_wind rmX7_wind (gPc g sz (List.flatten [kMo g a_mo a_ms a_mwas a_mtried a_msaved a_mpast a_mfar a_mdrift a_mline a_mtape a_mcommands m_changes m_thrown m_errorAt m_failedAt m_answer m_isSaved m_lined m_taped m_here m_commandMany, kAr g a_ms 130 m_s]) [.ref (a_mo 0)]) (gQi1 post (fun u1 => gB g (List.flatten [kMo g a_mo a_ms a_mwas a_mtried a_msaved a_mpast a_mfar a_mdrift a_mline a_mtape a_mcommands m_changes m_thrown m_errorAt m_failedAt m_answer m_isSaved m_lined m_taped m_here m_commandMany, kAr g a_ms 130 m_s]) sz (List.flatten [kMo g a_mo a_ms a_mwas a_mtried a_msaved a_mpast a_mfar a_mdrift a_mline a_mtape a_mcommands m_changes u1 m_errorAt m_failedAt m_answer m_isSaved m_lined m_taped m_here m_commandMany, kAr g a_ms 130 m_s])) (va_A (List.flatten [kMo g a_mo a_ms a_mwas a_mtried a_msaved a_mpast a_mfar a_mdrift a_mline a_mtape a_mcommands m_changes m_thrown m_errorAt m_failedAt m_answer m_isSaved m_lined m_taped m_here m_commandMany, kAr g a_ms 130 m_s]) sz)) 0 0 (va_A (List.flatten [kMo g a_mo a_ms a_mwas a_mtried a_msaved a_mpast a_mfar a_mdrift a_mline a_mtape a_mcommands m_changes m_thrown m_errorAt m_failedAt m_answer m_isSaved m_lined m_taped m_here m_commandMany, kAr g a_ms 130 m_s]) sz) := by
  refine gOf (cc := cX7_wind) (maxL := 1) (ret := (some .int)) (by decide) rfl (Nat.le_of_ble_eq_true rfl) ?_
  intro p e s m below meth c ls Q A hQ hx hb hr hml hts hown hlocks hE hA0 hsz hP hD hA hS hl
  have hl : lv_has ls 1 [(0, .ref (a_mo 0))] := hl
  refine lv_aload_n hx hb dX7_wind_0 rfl (lv_at hl 0 rfl) ?_
  refine lv_iconst (v := 0) hx hb dX7_wind_1 (by decide) ?_
  refine va_put (D := g.1) (ci := 11) (v := .int 0) (ty := .int) (C := RX7) (T := TX7) (N := 20) hx hb hts inX7_wind_X7 tyX7 tyX7_ok nmX7 hown hE.1 hP hD hS 0 rfl rfl 8 (by decide) (gW hts 1 (.fieldLink RX7 47 "SnowDispatcherModel" "thrown" "I") rfl) (fun _ h9 => h9) rfl (by decide +kernel) rfl rfl (Nat.le_of_ble_eq_true rfl) dX7_wind_2 (fun H locs hP hD hS => ?_)
  have hP : va_P g.1 vwCl (List.flatten [kMo g a_mo a_ms a_mwas a_mtried a_msaved a_mpast a_mfar a_mdrift a_mline a_mtape a_mcommands m_changes 0 m_errorAt m_failedAt m_answer m_isSaved m_lined m_taped m_here m_commandMany, kAr g a_ms 130 m_s]) H := hP
  have hD : va_D A (List.flatten [kMo g a_mo a_ms a_mwas a_mtried a_msaved a_mpast a_mfar a_mdrift a_mline a_mtape a_mcommands m_changes 0 m_errorAt m_failedAt m_answer m_isSaved m_lined m_taped m_here m_commandMany, kAr g a_ms 130 m_s]) := hD
  refine lv_aload_n hx hb dX7_wind_5 rfl (lv_at hl 0 rfl) ?_
  refine va_get (D := g.1) (ci := 11) (v := .ref (a_ms 0)) (C := RX7) (T := TX7) (N := 20) hx hb hts inX7_wind_X7 hown hE.1 hP 0 rfl rfl 0 (by decide) (gW hts 2 (.fieldLink RX7 9 "SnowDispatcherModel" "s" "[I") rfl) (fun _ h9 => h9) rfl dX7_wind_6 ?_
  refine lv_iconst (v := 5) hx hb dX7_wind_9 (by decide) ?_
  have h1 := hw.1
  have hw := hw.2
  refine va_iald hx hb hE.1 hP 1 0 rfl rfl h1 dX7_wind_10 ?_
  subst hQ
  exact W.iret hx hb hr (gRi1 (c1 := 0) (wf := _) hA0 hsz hw hP hD hS) hS.2.2 dX7_wind_11
abbrev rmX7_clearedTotal : Room := { frames := 1, cells := 0, slots := 0, locals := 100 }
set_option maxRecDepth 20000 in
theorem inX7_clearedTotal_X7 : ∀ w ∈ wsX70, w ∈ wsX7_clearedTotal := by decide +kernel
set_option maxHeartbeats 4000000 in
set_option maxRecDepth 100000 in
theorem ctX7_clearedTotal (l : Launch) (g : GG) (a_mo : Nat → Nat) (a_ms : Nat → Nat) (a_mwas : Nat → Nat) (a_mtried : Nat → Nat) (a_msaved : Nat → Nat) (a_mpast : Nat → Nat) (a_mfar : Nat → Nat) (a_mdrift : Nat → Nat) (a_mline : Nat → Nat) (a_mtape : Nat → Nat) (a_mcommands : Nat → Nat) (sz : Nat) (m_changes : Int32) (m_thrown : Int32) (m_errorAt : Int32) (m_failedAt : Int32) (m_answer : Int32) (m_isSaved : Int32) (m_lined : Int32) (m_taped : Int32) (m_here : Int32) (m_commandMany : Int32) (m_s : Nat → Int32) {post : Int32 → Int32 → Prop} (hw : wpX7_clearedTotal m_thrown m_s post) :
    Met l yX7_clearedTotal wsX7_clearedTotal rmX7_clearedTotal (gPc g sz (List.flatten [kMo g a_mo a_ms a_mwas a_mtried a_msaved a_mpast a_mfar a_mdrift a_mline a_mtape a_mcommands m_changes m_thrown m_errorAt m_failedAt m_answer m_isSaved m_lined m_taped m_here m_commandMany, kAr g a_ms 130 m_s]) [.ref (a_mo 0)]) (gQi1 post (fun u1 => gB g (List.flatten [kMo g a_mo a_ms a_mwas a_mtried a_msaved a_mpast a_mfar a_mdrift a_mline a_mtape a_mcommands m_changes m_thrown m_errorAt m_failedAt m_answer m_isSaved m_lined m_taped m_here m_commandMany, kAr g a_ms 130 m_s]) sz (List.flatten [kMo g a_mo a_ms a_mwas a_mtried a_msaved a_mpast a_mfar a_mdrift a_mline a_mtape a_mcommands m_changes u1 m_errorAt m_failedAt m_answer m_isSaved m_lined m_taped m_here m_commandMany, kAr g a_ms 130 m_s])) (va_A (List.flatten [kMo g a_mo a_ms a_mwas a_mtried a_msaved a_mpast a_mfar a_mdrift a_mline a_mtape a_mcommands m_changes m_thrown m_errorAt m_failedAt m_answer m_isSaved m_lined m_taped m_here m_commandMany, kAr g a_ms 130 m_s]) sz)) 0 0 (va_A (List.flatten [kMo g a_mo a_ms a_mwas a_mtried a_msaved a_mpast a_mfar a_mdrift a_mline a_mtape a_mcommands m_changes m_thrown m_errorAt m_failedAt m_answer m_isSaved m_lined m_taped m_here m_commandMany, kAr g a_ms 130 m_s]) sz) := by
  refine gOf (cc := cX7_clearedTotal) (maxL := 1) (ret := (some .int)) (by decide) rfl (Nat.le_of_ble_eq_true rfl) ?_
  intro p e s m below meth c ls Q A hQ hx hb hr hml hts hown hlocks hE hA0 hsz hP hD hA hS hl
  have hl : lv_has ls 1 [(0, .ref (a_mo 0))] := hl
  refine lv_aload_n hx hb dX7_clearedTotal_0 rfl (lv_at hl 0 rfl) ?_
  refine lv_iconst (v := 0) hx hb dX7_clearedTotal_1 (by decide) ?_
  refine va_put (D := g.1) (ci := 11) (v := .int 0) (ty := .int) (C := RX7) (T := TX7) (N := 20) hx hb hts inX7_clearedTotal_X7 tyX7 tyX7_ok nmX7 hown hE.1 hP hD hS 0 rfl rfl 8 (by decide) (gW hts 1 (.fieldLink RX7 47 "SnowDispatcherModel" "thrown" "I") rfl) (fun _ h9 => h9) rfl (by decide +kernel) rfl rfl (Nat.le_of_ble_eq_true rfl) dX7_clearedTotal_2 (fun H locs hP hD hS => ?_)
  have hP : va_P g.1 vwCl (List.flatten [kMo g a_mo a_ms a_mwas a_mtried a_msaved a_mpast a_mfar a_mdrift a_mline a_mtape a_mcommands m_changes 0 m_errorAt m_failedAt m_answer m_isSaved m_lined m_taped m_here m_commandMany, kAr g a_ms 130 m_s]) H := hP
  have hD : va_D A (List.flatten [kMo g a_mo a_ms a_mwas a_mtried a_msaved a_mpast a_mfar a_mdrift a_mline a_mtape a_mcommands m_changes 0 m_errorAt m_failedAt m_answer m_isSaved m_lined m_taped m_here m_commandMany, kAr g a_ms 130 m_s]) := hD
  refine lv_aload_n hx hb dX7_clearedTotal_5 rfl (lv_at hl 0 rfl) ?_
  refine va_get (D := g.1) (ci := 11) (v := .ref (a_ms 0)) (C := RX7) (T := TX7) (N := 20) hx hb hts inX7_clearedTotal_X7 hown hE.1 hP 0 rfl rfl 0 (by decide) (gW hts 2 (.fieldLink RX7 9 "SnowDispatcherModel" "s" "[I") rfl) (fun _ h9 => h9) rfl dX7_clearedTotal_6 ?_
  refine lv_bipush (v := 6) hx hb dX7_clearedTotal_9 (by decide) ?_
  have h1 := hw.1
  have hw := hw.2
  refine va_iald hx hb hE.1 hP 1 0 rfl rfl h1 dX7_clearedTotal_11 ?_
  subst hQ
  exact W.iret hx hb hr (gRi1 (c1 := 0) (wf := _) hA0 hsz hw hP hD hS) hS.2.2 dX7_clearedTotal_12
abbrev rmX7_ploughedTotal : Room := { frames := 1, cells := 0, slots := 0, locals := 100 }
set_option maxRecDepth 20000 in
theorem inX7_ploughedTotal_X7 : ∀ w ∈ wsX70, w ∈ wsX7_ploughedTotal := by decide +kernel
set_option maxHeartbeats 4000000 in
set_option maxRecDepth 100000 in
theorem ctX7_ploughedTotal (l : Launch) (g : GG) (a_mo : Nat → Nat) (a_ms : Nat → Nat) (a_mwas : Nat → Nat) (a_mtried : Nat → Nat) (a_msaved : Nat → Nat) (a_mpast : Nat → Nat) (a_mfar : Nat → Nat) (a_mdrift : Nat → Nat) (a_mline : Nat → Nat) (a_mtape : Nat → Nat) (a_mcommands : Nat → Nat) (sz : Nat) (m_changes : Int32) (m_thrown : Int32) (m_errorAt : Int32) (m_failedAt : Int32) (m_answer : Int32) (m_isSaved : Int32) (m_lined : Int32) (m_taped : Int32) (m_here : Int32) (m_commandMany : Int32) (m_s : Nat → Int32) {post : Int32 → Int32 → Prop} (hw : wpX7_ploughedTotal m_thrown m_s post) :
    Met l yX7_ploughedTotal wsX7_ploughedTotal rmX7_ploughedTotal (gPc g sz (List.flatten [kMo g a_mo a_ms a_mwas a_mtried a_msaved a_mpast a_mfar a_mdrift a_mline a_mtape a_mcommands m_changes m_thrown m_errorAt m_failedAt m_answer m_isSaved m_lined m_taped m_here m_commandMany, kAr g a_ms 130 m_s]) [.ref (a_mo 0)]) (gQi1 post (fun u1 => gB g (List.flatten [kMo g a_mo a_ms a_mwas a_mtried a_msaved a_mpast a_mfar a_mdrift a_mline a_mtape a_mcommands m_changes m_thrown m_errorAt m_failedAt m_answer m_isSaved m_lined m_taped m_here m_commandMany, kAr g a_ms 130 m_s]) sz (List.flatten [kMo g a_mo a_ms a_mwas a_mtried a_msaved a_mpast a_mfar a_mdrift a_mline a_mtape a_mcommands m_changes u1 m_errorAt m_failedAt m_answer m_isSaved m_lined m_taped m_here m_commandMany, kAr g a_ms 130 m_s])) (va_A (List.flatten [kMo g a_mo a_ms a_mwas a_mtried a_msaved a_mpast a_mfar a_mdrift a_mline a_mtape a_mcommands m_changes m_thrown m_errorAt m_failedAt m_answer m_isSaved m_lined m_taped m_here m_commandMany, kAr g a_ms 130 m_s]) sz)) 0 0 (va_A (List.flatten [kMo g a_mo a_ms a_mwas a_mtried a_msaved a_mpast a_mfar a_mdrift a_mline a_mtape a_mcommands m_changes m_thrown m_errorAt m_failedAt m_answer m_isSaved m_lined m_taped m_here m_commandMany, kAr g a_ms 130 m_s]) sz) := by
  refine gOf (cc := cX7_ploughedTotal) (maxL := 1) (ret := (some .int)) (by decide) rfl (Nat.le_of_ble_eq_true rfl) ?_
  intro p e s m below meth c ls Q A hQ hx hb hr hml hts hown hlocks hE hA0 hsz hP hD hA hS hl
  have hl : lv_has ls 1 [(0, .ref (a_mo 0))] := hl
  refine lv_aload_n hx hb dX7_ploughedTotal_0 rfl (lv_at hl 0 rfl) ?_
  refine lv_iconst (v := 0) hx hb dX7_ploughedTotal_1 (by decide) ?_
  refine va_put (D := g.1) (ci := 11) (v := .int 0) (ty := .int) (C := RX7) (T := TX7) (N := 20) hx hb hts inX7_ploughedTotal_X7 tyX7 tyX7_ok nmX7 hown hE.1 hP hD hS 0 rfl rfl 8 (by decide) (gW hts 1 (.fieldLink RX7 47 "SnowDispatcherModel" "thrown" "I") rfl) (fun _ h9 => h9) rfl (by decide +kernel) rfl rfl (Nat.le_of_ble_eq_true rfl) dX7_ploughedTotal_2 (fun H locs hP hD hS => ?_)
  have hP : va_P g.1 vwCl (List.flatten [kMo g a_mo a_ms a_mwas a_mtried a_msaved a_mpast a_mfar a_mdrift a_mline a_mtape a_mcommands m_changes 0 m_errorAt m_failedAt m_answer m_isSaved m_lined m_taped m_here m_commandMany, kAr g a_ms 130 m_s]) H := hP
  have hD : va_D A (List.flatten [kMo g a_mo a_ms a_mwas a_mtried a_msaved a_mpast a_mfar a_mdrift a_mline a_mtape a_mcommands m_changes 0 m_errorAt m_failedAt m_answer m_isSaved m_lined m_taped m_here m_commandMany, kAr g a_ms 130 m_s]) := hD
  refine lv_aload_n hx hb dX7_ploughedTotal_5 rfl (lv_at hl 0 rfl) ?_
  refine va_get (D := g.1) (ci := 11) (v := .ref (a_ms 0)) (C := RX7) (T := TX7) (N := 20) hx hb hts inX7_ploughedTotal_X7 hown hE.1 hP 0 rfl rfl 0 (by decide) (gW hts 2 (.fieldLink RX7 9 "SnowDispatcherModel" "s" "[I") rfl) (fun _ h9 => h9) rfl dX7_ploughedTotal_6 ?_
  refine lv_bipush (v := 7) hx hb dX7_ploughedTotal_9 (by decide) ?_
  have h1 := hw.1
  have hw := hw.2
  refine va_iald hx hb hE.1 hP 1 0 rfl rfl h1 dX7_ploughedTotal_11 ?_
  subst hQ
  exact W.iret hx hb hr (gRi1 (c1 := 0) (wf := _) hA0 hsz hw hP hD hS) hS.2.2 dX7_ploughedTotal_12
abbrev rmX7_failedOrders : Room := { frames := 1, cells := 0, slots := 0, locals := 100 }
set_option maxRecDepth 20000 in
theorem inX7_failedOrders_X7 : ∀ w ∈ wsX70, w ∈ wsX7_failedOrders := by decide +kernel
set_option maxHeartbeats 4000000 in
set_option maxRecDepth 100000 in
theorem ctX7_failedOrders (l : Launch) (g : GG) (a_mo : Nat → Nat) (a_ms : Nat → Nat) (a_mwas : Nat → Nat) (a_mtried : Nat → Nat) (a_msaved : Nat → Nat) (a_mpast : Nat → Nat) (a_mfar : Nat → Nat) (a_mdrift : Nat → Nat) (a_mline : Nat → Nat) (a_mtape : Nat → Nat) (a_mcommands : Nat → Nat) (sz : Nat) (m_changes : Int32) (m_thrown : Int32) (m_errorAt : Int32) (m_failedAt : Int32) (m_answer : Int32) (m_isSaved : Int32) (m_lined : Int32) (m_taped : Int32) (m_here : Int32) (m_commandMany : Int32) (m_s : Nat → Int32) {post : Int32 → Int32 → Prop} (hw : wpX7_failedOrders m_thrown m_s post) :
    Met l yX7_failedOrders wsX7_failedOrders rmX7_failedOrders (gPc g sz (List.flatten [kMo g a_mo a_ms a_mwas a_mtried a_msaved a_mpast a_mfar a_mdrift a_mline a_mtape a_mcommands m_changes m_thrown m_errorAt m_failedAt m_answer m_isSaved m_lined m_taped m_here m_commandMany, kAr g a_ms 130 m_s]) [.ref (a_mo 0)]) (gQi1 post (fun u1 => gB g (List.flatten [kMo g a_mo a_ms a_mwas a_mtried a_msaved a_mpast a_mfar a_mdrift a_mline a_mtape a_mcommands m_changes m_thrown m_errorAt m_failedAt m_answer m_isSaved m_lined m_taped m_here m_commandMany, kAr g a_ms 130 m_s]) sz (List.flatten [kMo g a_mo a_ms a_mwas a_mtried a_msaved a_mpast a_mfar a_mdrift a_mline a_mtape a_mcommands m_changes u1 m_errorAt m_failedAt m_answer m_isSaved m_lined m_taped m_here m_commandMany, kAr g a_ms 130 m_s])) (va_A (List.flatten [kMo g a_mo a_ms a_mwas a_mtried a_msaved a_mpast a_mfar a_mdrift a_mline a_mtape a_mcommands m_changes m_thrown m_errorAt m_failedAt m_answer m_isSaved m_lined m_taped m_here m_commandMany, kAr g a_ms 130 m_s]) sz)) 0 0 (va_A (List.flatten [kMo g a_mo a_ms a_mwas a_mtried a_msaved a_mpast a_mfar a_mdrift a_mline a_mtape a_mcommands m_changes m_thrown m_errorAt m_failedAt m_answer m_isSaved m_lined m_taped m_here m_commandMany, kAr g a_ms 130 m_s]) sz) := by
  refine gOf (cc := cX7_failedOrders) (maxL := 1) (ret := (some .int)) (by decide) rfl (Nat.le_of_ble_eq_true rfl) ?_
  intro p e s m below meth c ls Q A hQ hx hb hr hml hts hown hlocks hE hA0 hsz hP hD hA hS hl
  have hl : lv_has ls 1 [(0, .ref (a_mo 0))] := hl
  refine lv_aload_n hx hb dX7_failedOrders_0 rfl (lv_at hl 0 rfl) ?_
  refine lv_iconst (v := 0) hx hb dX7_failedOrders_1 (by decide) ?_
  refine va_put (D := g.1) (ci := 11) (v := .int 0) (ty := .int) (C := RX7) (T := TX7) (N := 20) hx hb hts inX7_failedOrders_X7 tyX7 tyX7_ok nmX7 hown hE.1 hP hD hS 0 rfl rfl 8 (by decide) (gW hts 1 (.fieldLink RX7 47 "SnowDispatcherModel" "thrown" "I") rfl) (fun _ h9 => h9) rfl (by decide +kernel) rfl rfl (Nat.le_of_ble_eq_true rfl) dX7_failedOrders_2 (fun H locs hP hD hS => ?_)
  have hP : va_P g.1 vwCl (List.flatten [kMo g a_mo a_ms a_mwas a_mtried a_msaved a_mpast a_mfar a_mdrift a_mline a_mtape a_mcommands m_changes 0 m_errorAt m_failedAt m_answer m_isSaved m_lined m_taped m_here m_commandMany, kAr g a_ms 130 m_s]) H := hP
  have hD : va_D A (List.flatten [kMo g a_mo a_ms a_mwas a_mtried a_msaved a_mpast a_mfar a_mdrift a_mline a_mtape a_mcommands m_changes 0 m_errorAt m_failedAt m_answer m_isSaved m_lined m_taped m_here m_commandMany, kAr g a_ms 130 m_s]) := hD
  refine lv_aload_n hx hb dX7_failedOrders_5 rfl (lv_at hl 0 rfl) ?_
  refine va_get (D := g.1) (ci := 11) (v := .ref (a_ms 0)) (C := RX7) (T := TX7) (N := 20) hx hb hts inX7_failedOrders_X7 hown hE.1 hP 0 rfl rfl 0 (by decide) (gW hts 2 (.fieldLink RX7 9 "SnowDispatcherModel" "s" "[I") rfl) (fun _ h9 => h9) rfl dX7_failedOrders_6 ?_
  refine lv_bipush (v := 8) hx hb dX7_failedOrders_9 (by decide) ?_
  have h1 := hw.1
  have hw := hw.2
  refine va_iald hx hb hE.1 hP 1 0 rfl rfl h1 dX7_failedOrders_11 ?_
  subst hQ
  exact W.iret hx hb hr (gRi1 (c1 := 0) (wf := _) hA0 hsz hw hP hD hS) hS.2.2 dX7_failedOrders_12
abbrev rmX7_complaintTotal : Room := { frames := 1, cells := 0, slots := 0, locals := 100 }
set_option maxRecDepth 20000 in
theorem inX7_complaintTotal_X7 : ∀ w ∈ wsX70, w ∈ wsX7_complaintTotal := by decide +kernel
set_option maxHeartbeats 4000000 in
set_option maxRecDepth 100000 in
theorem ctX7_complaintTotal (l : Launch) (g : GG) (a_mo : Nat → Nat) (a_ms : Nat → Nat) (a_mwas : Nat → Nat) (a_mtried : Nat → Nat) (a_msaved : Nat → Nat) (a_mpast : Nat → Nat) (a_mfar : Nat → Nat) (a_mdrift : Nat → Nat) (a_mline : Nat → Nat) (a_mtape : Nat → Nat) (a_mcommands : Nat → Nat) (sz : Nat) (m_changes : Int32) (m_thrown : Int32) (m_errorAt : Int32) (m_failedAt : Int32) (m_answer : Int32) (m_isSaved : Int32) (m_lined : Int32) (m_taped : Int32) (m_here : Int32) (m_commandMany : Int32) (m_s : Nat → Int32) {post : Int32 → Int32 → Prop} (hw : wpX7_complaintTotal m_thrown m_s post) :
    Met l yX7_complaintTotal wsX7_complaintTotal rmX7_complaintTotal (gPc g sz (List.flatten [kMo g a_mo a_ms a_mwas a_mtried a_msaved a_mpast a_mfar a_mdrift a_mline a_mtape a_mcommands m_changes m_thrown m_errorAt m_failedAt m_answer m_isSaved m_lined m_taped m_here m_commandMany, kAr g a_ms 130 m_s]) [.ref (a_mo 0)]) (gQi1 post (fun u1 => gB g (List.flatten [kMo g a_mo a_ms a_mwas a_mtried a_msaved a_mpast a_mfar a_mdrift a_mline a_mtape a_mcommands m_changes m_thrown m_errorAt m_failedAt m_answer m_isSaved m_lined m_taped m_here m_commandMany, kAr g a_ms 130 m_s]) sz (List.flatten [kMo g a_mo a_ms a_mwas a_mtried a_msaved a_mpast a_mfar a_mdrift a_mline a_mtape a_mcommands m_changes u1 m_errorAt m_failedAt m_answer m_isSaved m_lined m_taped m_here m_commandMany, kAr g a_ms 130 m_s])) (va_A (List.flatten [kMo g a_mo a_ms a_mwas a_mtried a_msaved a_mpast a_mfar a_mdrift a_mline a_mtape a_mcommands m_changes m_thrown m_errorAt m_failedAt m_answer m_isSaved m_lined m_taped m_here m_commandMany, kAr g a_ms 130 m_s]) sz)) 0 0 (va_A (List.flatten [kMo g a_mo a_ms a_mwas a_mtried a_msaved a_mpast a_mfar a_mdrift a_mline a_mtape a_mcommands m_changes m_thrown m_errorAt m_failedAt m_answer m_isSaved m_lined m_taped m_here m_commandMany, kAr g a_ms 130 m_s]) sz) := by
  refine gOf (cc := cX7_complaintTotal) (maxL := 1) (ret := (some .int)) (by decide) rfl (Nat.le_of_ble_eq_true rfl) ?_
  intro p e s m below meth c ls Q A hQ hx hb hr hml hts hown hlocks hE hA0 hsz hP hD hA hS hl
  have hl : lv_has ls 1 [(0, .ref (a_mo 0))] := hl
  refine lv_aload_n hx hb dX7_complaintTotal_0 rfl (lv_at hl 0 rfl) ?_
  refine lv_iconst (v := 0) hx hb dX7_complaintTotal_1 (by decide) ?_
  refine va_put (D := g.1) (ci := 11) (v := .int 0) (ty := .int) (C := RX7) (T := TX7) (N := 20) hx hb hts inX7_complaintTotal_X7 tyX7 tyX7_ok nmX7 hown hE.1 hP hD hS 0 rfl rfl 8 (by decide) (gW hts 1 (.fieldLink RX7 47 "SnowDispatcherModel" "thrown" "I") rfl) (fun _ h9 => h9) rfl (by decide +kernel) rfl rfl (Nat.le_of_ble_eq_true rfl) dX7_complaintTotal_2 (fun H locs hP hD hS => ?_)
  have hP : va_P g.1 vwCl (List.flatten [kMo g a_mo a_ms a_mwas a_mtried a_msaved a_mpast a_mfar a_mdrift a_mline a_mtape a_mcommands m_changes 0 m_errorAt m_failedAt m_answer m_isSaved m_lined m_taped m_here m_commandMany, kAr g a_ms 130 m_s]) H := hP
  have hD : va_D A (List.flatten [kMo g a_mo a_ms a_mwas a_mtried a_msaved a_mpast a_mfar a_mdrift a_mline a_mtape a_mcommands m_changes 0 m_errorAt m_failedAt m_answer m_isSaved m_lined m_taped m_here m_commandMany, kAr g a_ms 130 m_s]) := hD
  refine lv_aload_n hx hb dX7_complaintTotal_5 rfl (lv_at hl 0 rfl) ?_
  refine va_get (D := g.1) (ci := 11) (v := .ref (a_ms 0)) (C := RX7) (T := TX7) (N := 20) hx hb hts inX7_complaintTotal_X7 hown hE.1 hP 0 rfl rfl 0 (by decide) (gW hts 2 (.fieldLink RX7 9 "SnowDispatcherModel" "s" "[I") rfl) (fun _ h9 => h9) rfl dX7_complaintTotal_6 ?_
  refine lv_bipush (v := 9) hx hb dX7_complaintTotal_9 (by decide) ?_
  have h1 := hw.1
  have hw := hw.2
  refine va_iald hx hb hE.1 hP 1 0 rfl rfl h1 dX7_complaintTotal_11 ?_
  subst hQ
  exact W.iret hx hb hr (gRi1 (c1 := 0) (wf := _) hA0 hsz hw hP hD hS) hS.2.2 dX7_complaintTotal_12
abbrev rmX7_isConsistent : Room := { frames := 2, cells := 0, slots := 0, locals := 123 }
set_option maxRecDepth 20000 in
theorem inX7_isConsistent_X7 : ∀ w ∈ wsX70, w ∈ wsX7_isConsistent := by decide +kernel
set_option maxHeartbeats 4000000 in
set_option maxRecDepth 100000 in
theorem ctX7_isConsistent (l : Launch) (g : GG) (a_mo : Nat → Nat) (a_ms : Nat → Nat) (a_mwas : Nat → Nat) (a_mtried : Nat → Nat) (a_msaved : Nat → Nat) (a_mpast : Nat → Nat) (a_mfar : Nat → Nat) (a_mdrift : Nat → Nat) (a_mline : Nat → Nat) (a_mtape : Nat → Nat) (a_mcommands : Nat → Nat) (sz : Nat) (m_changes : Int32) (m_thrown : Int32) (m_errorAt : Int32) (m_failedAt : Int32) (m_answer : Int32) (m_isSaved : Int32) (m_lined : Int32) (m_taped : Int32) (m_here : Int32) (m_commandMany : Int32) (m_s : Nat → Int32) {post : Int32 → Int32 → Prop} (hw : wpX7_isConsistent m_thrown m_s post) :
    Met l yX7_isConsistent wsX7_isConsistent rmX7_isConsistent (gPc g sz (List.flatten [kMo g a_mo a_ms a_mwas a_mtried a_msaved a_mpast a_mfar a_mdrift a_mline a_mtape a_mcommands m_changes m_thrown m_errorAt m_failedAt m_answer m_isSaved m_lined m_taped m_here m_commandMany, kAr g a_ms 130 m_s]) [.ref (a_mo 0)]) (gQi1 post (fun u1 => gB g (List.flatten [kMo g a_mo a_ms a_mwas a_mtried a_msaved a_mpast a_mfar a_mdrift a_mline a_mtape a_mcommands m_changes m_thrown m_errorAt m_failedAt m_answer m_isSaved m_lined m_taped m_here m_commandMany, kAr g a_ms 130 m_s]) sz (List.flatten [kMo g a_mo a_ms a_mwas a_mtried a_msaved a_mpast a_mfar a_mdrift a_mline a_mtape a_mcommands m_changes u1 m_errorAt m_failedAt m_answer m_isSaved m_lined m_taped m_here m_commandMany, kAr g a_ms 130 m_s])) (va_A (List.flatten [kMo g a_mo a_ms a_mwas a_mtried a_msaved a_mpast a_mfar a_mdrift a_mline a_mtape a_mcommands m_changes m_thrown m_errorAt m_failedAt m_answer m_isSaved m_lined m_taped m_here m_commandMany, kAr g a_ms 130 m_s]) sz)) 0 0 (va_A (List.flatten [kMo g a_mo a_ms a_mwas a_mtried a_msaved a_mpast a_mfar a_mdrift a_mline a_mtape a_mcommands m_changes m_thrown m_errorAt m_failedAt m_answer m_isSaved m_lined m_taped m_here m_commandMany, kAr g a_ms 130 m_s]) sz) := by
  refine gOf (cc := cX7_isConsistent) (maxL := 4) (ret := (some .boolean)) (by decide) rfl (Nat.le_of_ble_eq_true rfl) ?_
  intro p e s m below meth c ls Q A hQ hx hb hr hml hts hown hlocks hE hA0 hsz hP hD hA hS hl
  have hl : lv_has ls 4 [(0, .ref (a_mo 0))] := hl
  have L11 : ∀ (n : Nat) (m_thrown_11 : Int32) (x1_11 : Int32) (x2_11 : Int32) (x3_11 : Int32) (H : Heap) (locs : List Loc) (ls : Array Slot), wpX7_isConsistent_L11 m_s m_thrown_11 post n x1_11 x2_11 x3_11 → va_P g.1 vwCl (List.flatten [kMo g a_mo a_ms a_mwas a_mtried a_msaved a_mpast a_mfar a_mdrift a_mline a_mtape a_mcommands m_changes m_thrown_11 m_errorAt m_failedAt m_answer m_isSaved m_lined m_taped m_here m_commandMany, kAr g a_ms 130 m_s]) H → va_D A (List.flatten [kMo g a_mo a_ms a_mwas a_mtried a_msaved a_mpast a_mfar a_mdrift a_mline a_mtape a_mcommands m_changes m_thrown_11 m_errorAt m_failedAt m_answer m_isSaved m_lined m_taped m_here m_commandMany, kAr g a_ms 130 m_s]) → va_S A s.heap H locs → lv_has ls 4 [(0, .ref (a_mo 0)), (1, .int x1_11), (2, .int x2_11), (3, .int x3_11)] → W p l e rmX7_isConsistent s m (([.ref (a_mo 0)] : List Value).toArray) below meth c H locs 0 0 Q (F0 m 11 ls []) := by
    intro n_11
    induction n_11 with
    | zero => intro m_thrown_11 x1_11 x2_11 x3_11 H locs ls hw; exact False.elim hw
    | succ n_11 ih_11 =>
      intro m_thrown_11 x1_11 x2_11 x3_11 H locs ls hw hP hD hS hl
      refine lv_iload_n hx hb dX7_isConsistent_11 rfl (lv_at hl 3 rfl) ?_
      refine lv_aload_n hx hb dX7_isConsistent_12 rfl (lv_at hl 0 rfl) ?_
      refine va_get (D := g.1) (ci := 11) (v := .ref (a_ms 0)) (C := RX7) (T := TX7) (N := 20) hx hb hts inX7_isConsistent_X7 hown hE.1 hP 0 rfl rfl 0 (by decide) (gW hts 2 (.fieldLink RX7 9 "SnowDispatcherModel" "s" "[I") rfl) (fun _ h9 => h9) rfl dX7_isConsistent_13 ?_
      refine lv_iconst (v := 1) hx hb dX7_isConsistent_16 (by decide) ?_
      have h1 := hw.1
      have hw := hw.2
      refine va_iald hx hb hE.1 hP 1 0 rfl rfl h1 dX7_isConsistent_17 ?_
      refine lv_icmp_ge (tgt := 53) hx hb dX7_isConsistent_18 (by decide) (fun c_18 => ?_) (fun c_18 => ?_)
      · have hw := hw.1 c_18
        refine lv_iload_n hx hb dX7_isConsistent_53 rfl (lv_at hl 2 rfl) ?_
        refine lv_if_eq (tgt := 72) hx hb dX7_isConsistent_54 (by decide) (fun c_54 => ?_) (fun c_54 => ?_)
        · have hw := hw.1 c_54
          refine lv_iconst (v := 0) hx hb dX7_isConsistent_72 (by decide) ?_
          subst hQ
          exact W.zret (ty := .boolean) hx hb hr (by decide) (gRi1 (c1 := m_thrown_11) (wf := _) hA0 hsz hw hP hD hS) hS.2.2 dX7_isConsistent_73
        · have hw := hw.2 c_54
          refine lv_iload_n hx hb dX7_isConsistent_57 rfl (lv_at hl 1 rfl) ?_
          refine lv_aload_n hx hb dX7_isConsistent_58 rfl (lv_at hl 0 rfl) ?_
          refine va_get (D := g.1) (ci := 11) (v := .ref (a_ms 0)) (C := RX7) (T := TX7) (N := 20) hx hb hts inX7_isConsistent_X7 hown hE.1 hP 0 rfl rfl 0 (by decide) (gW hts 2 (.fieldLink RX7 9 "SnowDispatcherModel" "s" "[I") rfl) (fun _ h9 => h9) rfl dX7_isConsistent_59 ?_
          refine lv_bipush (v := 9) hx hb dX7_isConsistent_62 (by decide) ?_
          have h2 := hw.1
          have hw := hw.2
          refine va_iald hx hb hE.1 hP 1 0 rfl rfl h2 dX7_isConsistent_64 ?_
          refine lv_icmp_ne (tgt := 72) hx hb dX7_isConsistent_65 (by decide) (fun c_65 => ?_) (fun c_65 => ?_)
          · have hw := hw.1 c_65
            refine lv_iconst (v := 0) hx hb dX7_isConsistent_72 (by decide) ?_
            subst hQ
            exact W.zret (ty := .boolean) hx hb hr (by decide) (gRi1 (c1 := m_thrown_11) (wf := _) hA0 hsz hw hP hD hS) hS.2.2 dX7_isConsistent_73
          · have hw := hw.2 c_65
            refine lv_iconst (v := 1) hx hb dX7_isConsistent_68 (by decide) ?_
            refine lv_goto (tgt := 73) hx hb dX7_isConsistent_69 (by decide) ?_
            subst hQ
            exact W.zret (ty := .boolean) hx hb hr (by decide) (gRi1 (c1 := m_thrown_11) (wf := _) hA0 hsz hw hP hD hS) hS.2.2 dX7_isConsistent_73
      · have hw := hw.2 c_18
        refine lv_iload_n hx hb dX7_isConsistent_21 rfl (lv_at hl 1 rfl) ?_
        refine lv_aload_n hx hb dX7_isConsistent_22 rfl (lv_at hl 0 rfl) ?_
        refine lv_iload_n hx hb dX7_isConsistent_23 rfl (lv_at hl 3 rfl) ?_
        refine lv_bipush (v := 6) hx hb dX7_isConsistent_24 (by decide) ?_
        refine gCi0 (gRunV (As := [.int x3_11, .int 6]) (rest := [.int x1_11]) ⟨hx, hb, hml, hown, hts⟩ (ctX7_of l g a_mo a_ms a_mwas a_mtried a_msaved a_mpast a_mfar a_mdrift a_mline a_mtape a_mcommands _ m_changes m_thrown_11 m_errorAt m_failedAt m_answer m_isSaved m_lined m_taped m_here m_commandMany m_s x3_11 6 hw) (cwV 2 hts gX7_isConsistent_X7_of rfl rfl rfl (by decide +kernel) ⟨Nat.le_of_ble_eq_true rfl, Nat.le_of_ble_eq_true rfl⟩) hE (gSub hP [0, 1]) (gDSub hD [0, 1] rfl) 0 11 rfl rfl rfl rfl rfl hl.1 rfl (lv_room (Nat.le_of_ble_eq_true rfl)) dX7_isConsistent_26 ⟨Nat.le_of_ble_eq_true rfl, Nat.le_of_ble_eq_true rfl⟩) hP hD hS hA [0, 1] rfl rfl rfl (fun r3 H locs hw hP hD hS => ?_)
        have hP : va_P g.1 vwCl (List.flatten [kMo g a_mo a_ms a_mwas a_mtried a_msaved a_mpast a_mfar a_mdrift a_mline a_mtape a_mcommands m_changes m_thrown_11 m_errorAt m_failedAt m_answer m_isSaved m_lined m_taped m_here m_commandMany, kAr g a_ms 130 m_s]) H := hP
        have hD : va_D A (List.flatten [kMo g a_mo a_ms a_mwas a_mtried a_msaved a_mpast a_mfar a_mdrift a_mline a_mtape a_mcommands m_changes m_thrown_11 m_errorAt m_failedAt m_answer m_isSaved m_lined m_taped m_here m_commandMany, kAr g a_ms 130 m_s]) := hD
        refine lv_iadd hx hb dX7_isConsistent_29 ?_
        refine lv_istore_n (lv' := [(1, .int (x1_11 + r3)), (0, .ref (a_mo 0)), (2, .int x2_11), (3, .int x3_11)]) hx hb dX7_isConsistent_30 rfl hl (by decide) rfl (fun ls hl => ?_)
        refine lv_iload_n hx hb dX7_isConsistent_31 rfl (lv_at hl 2 rfl) ?_
        refine lv_aload_n hx hb dX7_isConsistent_32 rfl (lv_at hl 1 rfl) ?_
        refine lv_iload_n hx hb dX7_isConsistent_33 rfl (lv_at hl 3 rfl) ?_
        refine lv_iconst (v := 4) hx hb dX7_isConsistent_34 (by decide) ?_
        refine gCi0 (gRunV (As := [.int x3_11, .int 4]) (rest := [.int x2_11]) ⟨hx, hb, hml, hown, hts⟩ (ctX7_of l g a_mo a_ms a_mwas a_mtried a_msaved a_mpast a_mfar a_mdrift a_mline a_mtape a_mcommands _ m_changes m_thrown_11 m_errorAt m_failedAt m_answer m_isSaved m_lined m_taped m_here m_commandMany m_s x3_11 4 hw) (cwV 2 hts gX7_isConsistent_X7_of rfl rfl rfl (by decide +kernel) ⟨Nat.le_of_ble_eq_true rfl, Nat.le_of_ble_eq_true rfl⟩) hE (gSub hP [0, 1]) (gDSub hD [0, 1] rfl) 0 11 rfl rfl rfl rfl rfl hl.1 rfl (lv_room (Nat.le_of_ble_eq_true rfl)) dX7_isConsistent_35 ⟨Nat.le_of_ble_eq_true rfl, Nat.le_of_ble_eq_true rfl⟩) hP hD hS hA [0, 1] rfl rfl rfl (fun r4 H locs hw hP hD hS => ?_)
        have hP : va_P g.1 vwCl (List.flatten [kMo g a_mo a_ms a_mwas a_mtried a_msaved a_mpast a_mfar a_mdrift a_mline a_mtape a_mcommands m_changes m_thrown_11 m_errorAt m_failedAt m_answer m_isSaved m_lined m_taped m_here m_commandMany, kAr g a_ms 130 m_s]) H := hP
        have hD : va_D A (List.flatten [kMo g a_mo a_ms a_mwas a_mtried a_msaved a_mpast a_mfar a_mdrift a_mline a_mtape a_mcommands m_changes m_thrown_11 m_errorAt m_failedAt m_answer m_isSaved m_lined m_taped m_here m_commandMany, kAr g a_ms 130 m_s]) := hD
        refine lv_iconst (v := 0) hx hb dX7_isConsistent_38 (by decide) ?_
        refine lv_sipush (v := 200) hx hb dX7_isConsistent_39 (by decide) ?_
        refine gCi0 (gRunS (As := [.int r4, .int 0, .int 200]) (rest := [.int x2_11]) ⟨hx, hb, hml, hown, hts⟩ (ctX7_isIn l g _ r4 0 200 hw) (va_cwS 3 hts gX7_isConsistent_X7_isIn rfl rfl rfl (by decide +kernel) ⟨Nat.le_of_ble_eq_true rfl, Nat.le_of_ble_eq_true rfl⟩) hE (gSub hP []) (gDSub hD [] rfl) rfl rfl hl.1 rfl (lv_room (Nat.le_of_ble_eq_true rfl)) dX7_isConsistent_42 ⟨Nat.le_of_ble_eq_true rfl, Nat.le_of_ble_eq_true rfl⟩) hP hD hS hA [] rfl rfl rfl (fun r5 H locs hw hP hD hS => ?_)
        have hP : va_P g.1 vwCl (List.flatten [kMo g a_mo a_ms a_mwas a_mtried a_msaved a_mpast a_mfar a_mdrift a_mline a_mtape a_mcommands m_changes m_thrown_11 m_errorAt m_failedAt m_answer m_isSaved m_lined m_taped m_here m_commandMany, kAr g a_ms 130 m_s]) H := hP
        have hD : va_D A (List.flatten [kMo g a_mo a_ms a_mwas a_mtried a_msaved a_mpast a_mfar a_mdrift a_mline a_mtape a_mcommands m_changes m_thrown_11 m_errorAt m_failedAt m_answer m_isSaved m_lined m_taped m_here m_commandMany, kAr g a_ms 130 m_s]) := hD
        refine lv_iand hx hb dX7_isConsistent_45 ?_
        refine lv_istore_n (lv' := [(2, .int (x2_11 &&& r5)), (1, .int (x1_11 + r3)), (0, .ref (a_mo 0)), (3, .int x3_11)]) hx hb dX7_isConsistent_46 rfl hl (by decide) rfl (fun ls hl => ?_)
        refine lv_iinc (v := (x3_11 + 1)) (lv' := [(3, .int (x3_11 + 1)), (2, .int (x2_11 &&& r5)), (1, .int (x1_11 + r3)), (0, .ref (a_mo 0))]) hx hb dX7_isConsistent_47 hl (k := 3) rfl rfl (by decide) rfl (fun ls hl => ?_)
        refine lv_goto (tgt := 11) hx hb dX7_isConsistent_50 (by decide) ?_
        exact ih_11 m_thrown_11 (x1_11 + r3) (x2_11 &&& r5) (x3_11 + 1) _ _ _ hw hP hD hS (lv_sub hl [3, 2, 1, 0] rfl)
  refine lv_aload_n hx hb dX7_isConsistent_0 rfl (lv_at hl 0 rfl) ?_
  refine lv_iconst (v := 0) hx hb dX7_isConsistent_1 (by decide) ?_
  refine va_put (D := g.1) (ci := 11) (v := .int 0) (ty := .int) (C := RX7) (T := TX7) (N := 20) hx hb hts inX7_isConsistent_X7 tyX7 tyX7_ok nmX7 hown hE.1 hP hD hS 0 rfl rfl 8 (by decide) (gW hts 1 (.fieldLink RX7 47 "SnowDispatcherModel" "thrown" "I") rfl) (fun _ h9 => h9) rfl (by decide +kernel) rfl rfl (Nat.le_of_ble_eq_true rfl) dX7_isConsistent_2 (fun H locs hP hD hS => ?_)
  have hP : va_P g.1 vwCl (List.flatten [kMo g a_mo a_ms a_mwas a_mtried a_msaved a_mpast a_mfar a_mdrift a_mline a_mtape a_mcommands m_changes 0 m_errorAt m_failedAt m_answer m_isSaved m_lined m_taped m_here m_commandMany, kAr g a_ms 130 m_s]) H := hP
  have hD : va_D A (List.flatten [kMo g a_mo a_ms a_mwas a_mtried a_msaved a_mpast a_mfar a_mdrift a_mline a_mtape a_mcommands m_changes 0 m_errorAt m_failedAt m_answer m_isSaved m_lined m_taped m_here m_commandMany, kAr g a_ms 130 m_s]) := hD
  refine lv_iconst (v := 0) hx hb dX7_isConsistent_5 (by decide) ?_
  refine lv_istore_n (lv' := [(1, .int 0), (0, .ref (a_mo 0))]) hx hb dX7_isConsistent_6 rfl hl (by decide) rfl (fun ls hl => ?_)
  refine lv_iconst (v := 1) hx hb dX7_isConsistent_7 (by decide) ?_
  refine lv_istore_n (lv' := [(2, .int 1), (1, .int 0), (0, .ref (a_mo 0))]) hx hb dX7_isConsistent_8 rfl hl (by decide) rfl (fun ls hl => ?_)
  refine lv_iconst (v := 0) hx hb dX7_isConsistent_9 (by decide) ?_
  refine lv_istore_n (lv' := [(3, .int 0), (2, .int 1), (1, .int 0), (0, .ref (a_mo 0))]) hx hb dX7_isConsistent_10 rfl hl (by decide) rfl (fun ls hl => ?_)
  obtain ⟨n, hw⟩ := hw
  exact L11 n 0 0 1 0 _ _ _ hw hP hD hS (lv_sub hl [3, 2, 1, 0] rfl)
abbrev rmX7_puts : Room := { frames := 1, cells := 0, slots := 0, locals := 100 }
set_option maxRecDepth 20000 in
theorem inX7_puts_X7 : ∀ w ∈ wsX70, w ∈ wsX7_puts := by decide +kernel
set_option maxHeartbeats 4000000 in
set_option maxRecDepth 100000 in
theorem ctX7_puts (l : Launch) (g : GG) (a_mo : Nat → Nat) (a_ms : Nat → Nat) (a_mwas : Nat → Nat) (a_mtried : Nat → Nat) (a_msaved : Nat → Nat) (a_mpast : Nat → Nat) (a_mfar : Nat → Nat) (a_mdrift : Nat → Nat) (a_mline : Nat → Nat) (a_mtape : Nat → Nat) (a_mcommands : Nat → Nat) (sz : Nat) (m_changes : Int32) (m_thrown : Int32) (m_errorAt : Int32) (m_failedAt : Int32) (m_answer : Int32) (m_isSaved : Int32) (m_lined : Int32) (m_taped : Int32) (m_here : Int32) (m_commandMany : Int32) (m_line : Nat → Int32) (x1 : Int32) {post : Int32 → (Nat → Int32) → Prop} (hw : wpX7_puts x1 m_lined m_line post) :
    Met l yX7_puts wsX7_puts rmX7_puts (gPc g sz (List.flatten [kMo g a_mo a_ms a_mwas a_mtried a_msaved a_mpast a_mfar a_mdrift a_mline a_mtape a_mcommands m_changes m_thrown m_errorAt m_failedAt m_answer m_isSaved m_lined m_taped m_here m_commandMany, kAr g a_mline 40 m_line]) [.ref (a_mo 0), .int x1]) (gQv2 post (fun u1 u2 => gB g (List.flatten [kMo g a_mo a_ms a_mwas a_mtried a_msaved a_mpast a_mfar a_mdrift a_mline a_mtape a_mcommands m_changes m_thrown m_errorAt m_failedAt m_answer m_isSaved m_lined m_taped m_here m_commandMany, kAr g a_mline 40 m_line]) sz (List.flatten [kMo g a_mo a_ms a_mwas a_mtried a_msaved a_mpast a_mfar a_mdrift a_mline a_mtape a_mcommands m_changes m_thrown m_errorAt m_failedAt m_answer m_isSaved u1 m_taped m_here m_commandMany, kAr g a_mline 40 u2])) (va_A (List.flatten [kMo g a_mo a_ms a_mwas a_mtried a_msaved a_mpast a_mfar a_mdrift a_mline a_mtape a_mcommands m_changes m_thrown m_errorAt m_failedAt m_answer m_isSaved m_lined m_taped m_here m_commandMany, kAr g a_mline 40 m_line]) sz)) 0 0 (va_A (List.flatten [kMo g a_mo a_ms a_mwas a_mtried a_msaved a_mpast a_mfar a_mdrift a_mline a_mtape a_mcommands m_changes m_thrown m_errorAt m_failedAt m_answer m_isSaved m_lined m_taped m_here m_commandMany, kAr g a_mline 40 m_line]) sz) := by
  refine gOf (cc := cX7_puts) (maxL := 2) (ret := none) (by decide) rfl (Nat.le_of_ble_eq_true rfl) ?_
  intro p e s m below meth c ls Q A hQ hx hb hr hml hts hown hlocks hE hA0 hsz hP hD hA hS hl
  have hl : lv_has ls 2 [(0, .ref (a_mo 0)), (1, .int x1)] := hl
  refine lv_aload_n hx hb dX7_puts_0 rfl (lv_at hl 0 rfl) ?_
  refine va_get (D := g.1) (ci := 11) (v := .ref (a_mline 0)) (C := RX7) (T := TX7) (N := 20) hx hb hts inX7_puts_X7 hown hE.1 hP 0 rfl rfl 13 (by decide) (gW hts 1 (.fieldLink RX7 38 "SnowDispatcherModel" "line" "[I") rfl) (fun _ h9 => h9) rfl dX7_puts_1 ?_
  refine lv_aload_n hx hb dX7_puts_4 rfl (lv_at hl 0 rfl) ?_
  refine va_get (D := g.1) (ci := 11) (v := .int m_lined) (C := RX7) (T := TX7) (N := 20) hx hb hts inX7_puts_X7 hown hE.1 hP 0 rfl rfl 14 (by decide) (gW hts 2 (.fieldLink RX7 180 "SnowDispatcherModel" "lined" "I") rfl) (fun _ h9 => h9) rfl dX7_puts_5 ?_
  refine lv_iload_n hx hb dX7_puts_8 rfl (lv_at hl 1 rfl) ?_
  have h1 := hw.1
  have hw := hw.2
  refine va_iast hx hb hE.1 hP hD hS 1 0 rfl rfl h1 dX7_puts_9 (fun H locs hP hD hS => ?_)
  have hP : va_P g.1 vwCl (List.flatten [kMo g a_mo a_ms a_mwas a_mtried a_msaved a_mpast a_mfar a_mdrift a_mline a_mtape a_mcommands m_changes m_thrown m_errorAt m_failedAt m_answer m_isSaved m_lined m_taped m_here m_commandMany, kAr g a_mline 40 (upd m_line m_lined.toNatClampNeg x1)]) H := hP
  have hD : va_D A (List.flatten [kMo g a_mo a_ms a_mwas a_mtried a_msaved a_mpast a_mfar a_mdrift a_mline a_mtape a_mcommands m_changes m_thrown m_errorAt m_failedAt m_answer m_isSaved m_lined m_taped m_here m_commandMany, kAr g a_mline 40 (upd m_line m_lined.toNatClampNeg x1)]) := hD
  refine lv_aload_n hx hb dX7_puts_10 rfl (lv_at hl 0 rfl) ?_
  refine lv_dup hx hb dX7_puts_11 rfl ?_
  refine va_get (D := g.1) (ci := 11) (v := .int m_lined) (C := RX7) (T := TX7) (N := 20) hx hb hts inX7_puts_X7 hown hE.1 hP 0 rfl rfl 14 (by decide) (gW hts 2 (.fieldLink RX7 180 "SnowDispatcherModel" "lined" "I") rfl) (fun _ h9 => h9) rfl dX7_puts_12 ?_
  refine lv_iconst (v := 1) hx hb dX7_puts_15 (by decide) ?_
  refine lv_iadd hx hb dX7_puts_16 ?_
  refine va_put (D := g.1) (ci := 11) (v := .int (m_lined + 1)) (ty := .int) (C := RX7) (T := TX7) (N := 20) hx hb hts inX7_puts_X7 tyX7 tyX7_ok nmX7 hown hE.1 hP hD hS 0 rfl rfl 14 (by decide) (gW hts 2 (.fieldLink RX7 180 "SnowDispatcherModel" "lined" "I") rfl) (fun _ h9 => h9) rfl (by decide +kernel) rfl rfl (Nat.le_of_ble_eq_true rfl) dX7_puts_17 (fun H locs hP hD hS => ?_)
  have hP : va_P g.1 vwCl (List.flatten [kMo g a_mo a_ms a_mwas a_mtried a_msaved a_mpast a_mfar a_mdrift a_mline a_mtape a_mcommands m_changes m_thrown m_errorAt m_failedAt m_answer m_isSaved (m_lined + 1) m_taped m_here m_commandMany, kAr g a_mline 40 (upd m_line m_lined.toNatClampNeg x1)]) H := hP
  have hD : va_D A (List.flatten [kMo g a_mo a_ms a_mwas a_mtried a_msaved a_mpast a_mfar a_mdrift a_mline a_mtape a_mcommands m_changes m_thrown m_errorAt m_failedAt m_answer m_isSaved (m_lined + 1) m_taped m_here m_commandMany, kAr g a_mline 40 (upd m_line m_lined.toNatClampNeg x1)]) := hD
  subst hQ
  exact W.vret hx hb hr (gRv2 (c1 := (m_lined + 1)) (c2 := (upd m_line m_lined.toNatClampNeg x1)) (wf := _) hA0 hsz hw hP hD hS) hS.2.2 dX7_puts_20
abbrev rmX7_outputAt : Room := { frames := 2, cells := 0, slots := 0, locals := 123 }
set_option maxRecDepth 20000 in
theorem inX7_outputAt_X7 : ∀ w ∈ wsX70, w ∈ wsX7_outputAt := by decide +kernel
set_option maxHeartbeats 4000000 in
set_option maxRecDepth 100000 in
theorem ctX7_outputAt (l : Launch) (g : GG) (a_mo : Nat → Nat) (a_ms : Nat → Nat) (a_mwas : Nat → Nat) (a_mtried : Nat → Nat) (a_msaved : Nat → Nat) (a_mpast : Nat → Nat) (a_mfar : Nat → Nat) (a_mdrift : Nat → Nat) (a_mline : Nat → Nat) (a_mtape : Nat → Nat) (a_mcommands : Nat → Nat) (sz : Nat) (m_changes : Int32) (m_thrown : Int32) (m_errorAt : Int32) (m_failedAt : Int32) (m_answer : Int32) (m_isSaved : Int32) (m_lined : Int32) (m_taped : Int32) (m_here : Int32) (m_commandMany : Int32) (m_line : Nat → Int32) (x1 : Int32) {post : Int32 → Int32 → Prop} (hw : wpX7_outputAt x1 m_thrown m_lined m_line post) :
    Met l yX7_outputAt wsX7_outputAt rmX7_outputAt (gPc g sz (List.flatten [kMo g a_mo a_ms a_mwas a_mtried a_msaved a_mpast a_mfar a_mdrift a_mline a_mtape a_mcommands m_changes m_thrown m_errorAt m_failedAt m_answer m_isSaved m_lined m_taped m_here m_commandMany, kAr g a_mline 40 m_line]) [.ref (a_mo 0), .int x1]) (gQi1 post (fun u1 => gB g (List.flatten [kMo g a_mo a_ms a_mwas a_mtried a_msaved a_mpast a_mfar a_mdrift a_mline a_mtape a_mcommands m_changes m_thrown m_errorAt m_failedAt m_answer m_isSaved m_lined m_taped m_here m_commandMany, kAr g a_mline 40 m_line]) sz (List.flatten [kMo g a_mo a_ms a_mwas a_mtried a_msaved a_mpast a_mfar a_mdrift a_mline a_mtape a_mcommands m_changes u1 m_errorAt m_failedAt m_answer m_isSaved m_lined m_taped m_here m_commandMany, kAr g a_mline 40 m_line])) (va_A (List.flatten [kMo g a_mo a_ms a_mwas a_mtried a_msaved a_mpast a_mfar a_mdrift a_mline a_mtape a_mcommands m_changes m_thrown m_errorAt m_failedAt m_answer m_isSaved m_lined m_taped m_here m_commandMany, kAr g a_mline 40 m_line]) sz)) 0 0 (va_A (List.flatten [kMo g a_mo a_ms a_mwas a_mtried a_msaved a_mpast a_mfar a_mdrift a_mline a_mtape a_mcommands m_changes m_thrown m_errorAt m_failedAt m_answer m_isSaved m_lined m_taped m_here m_commandMany, kAr g a_mline 40 m_line]) sz) := by
  refine gOf (cc := cX7_outputAt) (maxL := 2) (ret := (some .char)) (by decide) rfl (Nat.le_of_ble_eq_true rfl) ?_
  intro p e s m below meth c ls Q A hQ hx hb hr hml hts hown hlocks hE hA0 hsz hP hD hA hS hl
  have hl : lv_has ls 2 [(0, .ref (a_mo 0)), (1, .int x1)] := hl
  have J20 : ∀ (z1_20 : Int32) (m_thrown_20 : Int32) (H : Heap) (locs : List Loc) (ls : Array Slot), wpX7_outputAt_L20 x1 m_lined m_line post z1_20 m_thrown_20 → va_P g.1 vwCl (List.flatten [kMo g a_mo a_ms a_mwas a_mtried a_msaved a_mpast a_mfar a_mdrift a_mline a_mtape a_mcommands m_changes m_thrown_20 m_errorAt m_failedAt m_answer m_isSaved m_lined m_taped m_here m_commandMany, kAr g a_mline 40 m_line]) H → va_D A (List.flatten [kMo g a_mo a_ms a_mwas a_mtried a_msaved a_mpast a_mfar a_mdrift a_mline a_mtape a_mcommands m_changes m_thrown_20 m_errorAt m_failedAt m_answer m_isSaved m_lined m_taped m_here m_commandMany, kAr g a_mline 40 m_line]) → va_S A s.heap H locs → lv_has ls 2 [(0, .ref (a_mo 0)), (1, .int x1)] → W p l e rmX7_outputAt s m (([.ref (a_mo 0), .int x1] : List Value).toArray) below meth c H locs 0 0 Q (F0 m 20 ls [.int z1_20, .ref (a_mo 0)]) := by
    intro z1_20 m_thrown_20 H locs ls hw hP hD hS hl
    refine lv_iconst (v := 1) hx hb dX7_outputAt_20 (by decide) ?_
    refine gCi1 (gRunV (As := [.int z1_20, .int 1]) (rest := []) ⟨hx, hb, hml, hown, hts⟩ (ctX7_isThrown l g a_mo a_ms a_mwas a_mtried a_msaved a_mpast a_mfar a_mdrift a_mline a_mtape a_mcommands _ m_changes m_thrown_20 m_errorAt m_failedAt m_answer m_isSaved m_lined m_taped m_here m_commandMany z1_20 1 hw) (cwV 2 hts gX7_outputAt_X7_isThrown rfl rfl rfl (by decide +kernel) ⟨Nat.le_of_ble_eq_true rfl, Nat.le_of_ble_eq_true rfl⟩) hE (gSub hP [0]) (gDSub hD [0] rfl) 0 11 rfl rfl rfl rfl rfl hl.1 rfl (lv_room (Nat.le_of_ble_eq_true rfl)) dX7_outputAt_21 ⟨Nat.le_of_ble_eq_true rfl, Nat.le_of_ble_eq_true rfl⟩) hP hD hS hA [0] rfl (fun _ => rfl) rfl (fun r2 m_thrown_v2 H locs hw hP hD hS => ?_)
    have hP : va_P g.1 vwCl (List.flatten [kMo g a_mo a_ms a_mwas a_mtried a_msaved a_mpast a_mfar a_mdrift a_mline a_mtape a_mcommands m_changes m_thrown_v2 m_errorAt m_failedAt m_answer m_isSaved m_lined m_taped m_here m_commandMany, kAr g a_mline 40 m_line]) H := hP
    have hD : va_D A (List.flatten [kMo g a_mo a_ms a_mwas a_mtried a_msaved a_mpast a_mfar a_mdrift a_mline a_mtape a_mcommands m_changes m_thrown_v2 m_errorAt m_failedAt m_answer m_isSaved m_lined m_taped m_here m_commandMany, kAr g a_mline 40 m_line]) := hD
    refine lv_if_eq (tgt := 31) hx hb dX7_outputAt_24 (by decide) (fun c_24 => ?_) (fun c_24 => ?_)
    · have hw := hw.1 c_24
      refine lv_aload_n hx hb dX7_outputAt_31 rfl (lv_at hl 0 rfl) ?_
      refine va_get (D := g.1) (ci := 11) (v := .ref (a_mline 0)) (C := RX7) (T := TX7) (N := 20) hx hb hts inX7_outputAt_X7 hown hE.1 hP 0 rfl rfl 13 (by decide) (gW hts 2 (.fieldLink RX7 38 "SnowDispatcherModel" "line" "[I") rfl) (fun _ h9 => h9) rfl dX7_outputAt_32 ?_
      refine lv_iload_n hx hb dX7_outputAt_35 rfl (lv_at hl 1 rfl) ?_
      have h3 := hw.1
      have hw := hw.2
      refine va_iald hx hb hE.1 hP 1 0 rfl rfl h3 dX7_outputAt_36 ?_
      refine lv_i2c (v := ((m_line x1.toNatClampNeg).toUInt32 % 65536).toInt32) hx hb dX7_outputAt_37 rfl ?_
      have h4 := hw.1
      have hw := hw.2
      subst hQ
      exact W.zret (ty := .char) hx hb hr h4 (gRi1 (c1 := m_thrown_v2) (wf := _) hA0 hsz hw hP hD hS) hS.2.2 dX7_outputAt_38
    · have hw := hw.2 c_24
      refine lv_iconst (v := 0) hx hb dX7_outputAt_27 (by decide) ?_
      refine lv_goto (tgt := 38) hx hb dX7_outputAt_28 (by decide) ?_
      subst hQ
      exact W.zret (ty := .char) hx hb hr (by decide) (gRi1 (c1 := m_thrown_v2) (wf := _) hA0 hsz hw hP hD hS) hS.2.2 dX7_outputAt_38
  refine lv_aload_n hx hb dX7_outputAt_0 rfl (lv_at hl 0 rfl) ?_
  refine lv_iload_n hx hb dX7_outputAt_1 rfl (lv_at hl 1 rfl) ?_
  refine lv_iconst (v := 0) hx hb dX7_outputAt_2 (by decide) ?_
  refine lv_aload_n hx hb dX7_outputAt_3 rfl (lv_at hl 0 rfl) ?_
  refine va_get (D := g.1) (ci := 11) (v := .int m_lined) (C := RX7) (T := TX7) (N := 20) hx hb hts inX7_outputAt_X7 hown hE.1 hP 0 rfl rfl 14 (by decide) (gW hts 1 (.fieldLink RX7 180 "SnowDispatcherModel" "lined" "I") rfl) (fun _ h9 => h9) rfl dX7_outputAt_4 ?_
  refine lv_iconst (v := 1) hx hb dX7_outputAt_7 (by decide) ?_
  refine lv_isub hx hb dX7_outputAt_8 ?_
  refine gCi0 (gRunS (As := [.int x1, .int 0, .int (m_lined - 1)]) (rest := [.ref (a_mo 0)]) ⟨hx, hb, hml, hown, hts⟩ (ctX7_isIn l g _ x1 0 (m_lined - 1) hw) (va_cwS 3 hts gX7_outputAt_X7_isIn rfl rfl rfl (by decide +kernel) ⟨Nat.le_of_ble_eq_true rfl, Nat.le_of_ble_eq_true rfl⟩) hE (gSub hP []) (gDSub hD [] rfl) rfl rfl hl.1 rfl (lv_room (Nat.le_of_ble_eq_true rfl)) dX7_outputAt_9 ⟨Nat.le_of_ble_eq_true rfl, Nat.le_of_ble_eq_true rfl⟩) hP hD hS hA [] rfl rfl rfl (fun r1 H locs hw hP hD hS => ?_)
  have hP : va_P g.1 vwCl (List.flatten [kMo g a_mo a_ms a_mwas a_mtried a_msaved a_mpast a_mfar a_mdrift a_mline a_mtape a_mcommands m_changes m_thrown m_errorAt m_failedAt m_answer m_isSaved m_lined m_taped m_here m_commandMany, kAr g a_mline 40 m_line]) H := hP
  have hD : va_D A (List.flatten [kMo g a_mo a_ms a_mwas a_mtried a_msaved a_mpast a_mfar a_mdrift a_mline a_mtape a_mcommands m_changes m_thrown m_errorAt m_failedAt m_answer m_isSaved m_lined m_taped m_here m_commandMany, kAr g a_mline 40 m_line]) := hD
  refine lv_if_ne (tgt := 19) hx hb dX7_outputAt_12 (by decide) (fun c_12 => ?_) (fun c_12 => ?_)
  · have hw := hw.1 c_12
    refine lv_iconst (v := 0) hx hb dX7_outputAt_19 (by decide) ?_
    exact J20 0 m_thrown _ _ _ hw hP hD hS (lv_sub hl [0, 1] rfl)
  · have hw := hw.2 c_12
    refine lv_iconst (v := 1) hx hb dX7_outputAt_15 (by decide) ?_
    refine lv_goto (tgt := 20) hx hb dX7_outputAt_16 (by decide) ?_
    exact J20 1 m_thrown _ _ _ hw hP hD hS (lv_sub hl [0, 1] rfl)
abbrev rmX7_type : Room := { frames := 2, cells := 0, slots := 0, locals := 123 }
set_option maxRecDepth 20000 in
theorem inX7_type_X7 : ∀ w ∈ wsX70, w ∈ wsX7_type := by decide +kernel
set_option maxHeartbeats 4000000 in
set_option maxRecDepth 100000 in
theorem ctX7_type (l : Launch) (g : GG) (a_mo : Nat → Nat) (a_ms : Nat → Nat) (a_mwas : Nat → Nat) (a_mtried : Nat → Nat) (a_msaved : Nat → Nat) (a_mpast : Nat → Nat) (a_mfar : Nat → Nat) (a_mdrift : Nat → Nat) (a_mline : Nat → Nat) (a_mtape : Nat → Nat) (a_mcommands : Nat → Nat) (sz : Nat) (m_changes : Int32) (m_thrown : Int32) (m_errorAt : Int32) (m_failedAt : Int32) (m_answer : Int32) (m_isSaved : Int32) (m_lined : Int32) (m_taped : Int32) (m_here : Int32) (m_commandMany : Int32) (m_tape : Nat → Int32) (x1 : Int32) {post : Int32 → Int32 → Int32 → (Nat → Int32) → Prop} (hw : wpX7_type x1 m_thrown m_taped m_tape post) :
    Met l yX7_type wsX7_type rmX7_type (gPc g sz (List.flatten [kMo g a_mo a_ms a_mwas a_mtried a_msaved a_mpast a_mfar a_mdrift a_mline a_mtape a_mcommands m_changes m_thrown m_errorAt m_failedAt m_answer m_isSaved m_lined m_taped m_here m_commandMany, kAr g a_mtape 60 m_tape]) [.ref (a_mo 0), .int x1]) (gQi3 post (fun u1 u2 u3 => gB g (List.flatten [kMo g a_mo a_ms a_mwas a_mtried a_msaved a_mpast a_mfar a_mdrift a_mline a_mtape a_mcommands m_changes m_thrown m_errorAt m_failedAt m_answer m_isSaved m_lined m_taped m_here m_commandMany, kAr g a_mtape 60 m_tape]) sz (List.flatten [kMo g a_mo a_ms a_mwas a_mtried a_msaved a_mpast a_mfar a_mdrift a_mline a_mtape a_mcommands m_changes u1 m_errorAt m_failedAt m_answer m_isSaved m_lined u2 m_here m_commandMany, kAr g a_mtape 60 u3])) (va_A (List.flatten [kMo g a_mo a_ms a_mwas a_mtried a_msaved a_mpast a_mfar a_mdrift a_mline a_mtape a_mcommands m_changes m_thrown m_errorAt m_failedAt m_answer m_isSaved m_lined m_taped m_here m_commandMany, kAr g a_mtape 60 m_tape]) sz)) 0 0 (va_A (List.flatten [kMo g a_mo a_ms a_mwas a_mtried a_msaved a_mpast a_mfar a_mdrift a_mline a_mtape a_mcommands m_changes m_thrown m_errorAt m_failedAt m_answer m_isSaved m_lined m_taped m_here m_commandMany, kAr g a_mtape 60 m_tape]) sz) := by
  refine gOf (cc := cX7_type) (maxL := 2) (ret := (some .int)) (by decide) rfl (Nat.le_of_ble_eq_true rfl) ?_
  intro p e s m below meth c ls Q A hQ hx hb hr hml hts hown hlocks hE hA0 hsz hP hD hA hS hl
  have hl : lv_has ls 2 [(0, .ref (a_mo 0)), (1, .int x1)] := hl
  have J39 : ∀ (z1_39 : Int32) (m_thrown_39 : Int32) (m_taped_39 : Int32) (m_tape_39 : Nat → Int32) (H : Heap) (locs : List Loc) (ls : Array Slot), wpX7_type_L39 x1 post z1_39 m_thrown_39 m_taped_39 m_tape_39 → va_P g.1 vwCl (List.flatten [kMo g a_mo a_ms a_mwas a_mtried a_msaved a_mpast a_mfar a_mdrift a_mline a_mtape a_mcommands m_changes m_thrown_39 m_errorAt m_failedAt m_answer m_isSaved m_lined m_taped_39 m_here m_commandMany, kAr g a_mtape 60 m_tape_39]) H → va_D A (List.flatten [kMo g a_mo a_ms a_mwas a_mtried a_msaved a_mpast a_mfar a_mdrift a_mline a_mtape a_mcommands m_changes m_thrown_39 m_errorAt m_failedAt m_answer m_isSaved m_lined m_taped_39 m_here m_commandMany, kAr g a_mtape 60 m_tape_39]) → va_S A s.heap H locs → lv_has ls 2 [(0, .ref (a_mo 0)), (1, .int x1)] → W p l e rmX7_type s m (([.ref (a_mo 0), .int x1] : List Value).toArray) below meth c H locs 0 0 Q (F0 m 39 ls [.int z1_39, .ref (a_mo 0)]) := by
    intro z1_39 m_thrown_39 m_taped_39 m_tape_39 H locs ls hw hP hD hS hl
    refine lv_iconst (v := 2) hx hb dX7_type_39 (by decide) ?_
    refine gCi1 (gRunV (As := [.int z1_39, .int 2]) (rest := []) ⟨hx, hb, hml, hown, hts⟩ (ctX7_isThrown l g a_mo a_ms a_mwas a_mtried a_msaved a_mpast a_mfar a_mdrift a_mline a_mtape a_mcommands _ m_changes m_thrown_39 m_errorAt m_failedAt m_answer m_isSaved m_lined m_taped_39 m_here m_commandMany z1_39 2 hw) (cwV 2 hts gX7_type_X7_isThrown rfl rfl rfl (by decide +kernel) ⟨Nat.le_of_ble_eq_true rfl, Nat.le_of_ble_eq_true rfl⟩) hE (gSub hP [0]) (gDSub hD [0] rfl) 0 11 rfl rfl rfl rfl rfl hl.1 rfl (lv_room (Nat.le_of_ble_eq_true rfl)) dX7_type_40 ⟨Nat.le_of_ble_eq_true rfl, Nat.le_of_ble_eq_true rfl⟩) hP hD hS hA [0] rfl (fun _ => rfl) rfl (fun r3 m_thrown_v3 H locs hw hP hD hS => ?_)
    have hP : va_P g.1 vwCl (List.flatten [kMo g a_mo a_ms a_mwas a_mtried a_msaved a_mpast a_mfar a_mdrift a_mline a_mtape a_mcommands m_changes m_thrown_v3 m_errorAt m_failedAt m_answer m_isSaved m_lined m_taped_39 m_here m_commandMany, kAr g a_mtape 60 m_tape_39]) H := hP
    have hD : va_D A (List.flatten [kMo g a_mo a_ms a_mwas a_mtried a_msaved a_mpast a_mfar a_mdrift a_mline a_mtape a_mcommands m_changes m_thrown_v3 m_errorAt m_failedAt m_answer m_isSaved m_lined m_taped_39 m_here m_commandMany, kAr g a_mtape 60 m_tape_39]) := hD
    refine lv_if_eq (tgt := 48) hx hb dX7_type_43 (by decide) (fun c_43 => ?_) (fun c_43 => ?_)
    · have hw := hw.1 c_43
      refine lv_aload_n hx hb dX7_type_48 rfl (lv_at hl 0 rfl) ?_
      refine va_get (D := g.1) (ci := 11) (v := .ref (a_mtape 0)) (C := RX7) (T := TX7) (N := 20) hx hb hts inX7_type_X7 hown hE.1 hP 0 rfl rfl 15 (by decide) (gW hts 2 (.fieldLink RX7 41 "SnowDispatcherModel" "tape" "[I") rfl) (fun _ h9 => h9) rfl dX7_type_49 ?_
      refine lv_aload_n hx hb dX7_type_52 rfl (lv_at hl 0 rfl) ?_
      refine va_get (D := g.1) (ci := 11) (v := .int m_taped_39) (C := RX7) (T := TX7) (N := 20) hx hb hts inX7_type_X7 hown hE.1 hP 0 rfl rfl 17 (by decide) (gW hts 1 (.fieldLink RX7 189 "SnowDispatcherModel" "taped" "I") rfl) (fun _ h9 => h9) rfl dX7_type_53 ?_
      refine lv_iload_n hx hb dX7_type_56 rfl (lv_at hl 1 rfl) ?_
      have h4 := hw.1
      have hw := hw.2
      refine va_iast hx hb hE.1 hP hD hS 1 0 rfl rfl h4 dX7_type_57 (fun H locs hP hD hS => ?_)
      have hP : va_P g.1 vwCl (List.flatten [kMo g a_mo a_ms a_mwas a_mtried a_msaved a_mpast a_mfar a_mdrift a_mline a_mtape a_mcommands m_changes m_thrown_v3 m_errorAt m_failedAt m_answer m_isSaved m_lined m_taped_39 m_here m_commandMany, kAr g a_mtape 60 (upd m_tape_39 m_taped_39.toNatClampNeg x1)]) H := hP
      have hD : va_D A (List.flatten [kMo g a_mo a_ms a_mwas a_mtried a_msaved a_mpast a_mfar a_mdrift a_mline a_mtape a_mcommands m_changes m_thrown_v3 m_errorAt m_failedAt m_answer m_isSaved m_lined m_taped_39 m_here m_commandMany, kAr g a_mtape 60 (upd m_tape_39 m_taped_39.toNatClampNeg x1)]) := hD
      refine lv_aload_n hx hb dX7_type_58 rfl (lv_at hl 0 rfl) ?_
      refine lv_dup hx hb dX7_type_59 rfl ?_
      refine va_get (D := g.1) (ci := 11) (v := .int m_taped_39) (C := RX7) (T := TX7) (N := 20) hx hb hts inX7_type_X7 hown hE.1 hP 0 rfl rfl 17 (by decide) (gW hts 1 (.fieldLink RX7 189 "SnowDispatcherModel" "taped" "I") rfl) (fun _ h9 => h9) rfl dX7_type_60 ?_
      refine lv_iconst (v := 1) hx hb dX7_type_63 (by decide) ?_
      refine lv_iadd hx hb dX7_type_64 ?_
      refine va_put (D := g.1) (ci := 11) (v := .int (m_taped_39 + 1)) (ty := .int) (C := RX7) (T := TX7) (N := 20) hx hb hts inX7_type_X7 tyX7 tyX7_ok nmX7 hown hE.1 hP hD hS 0 rfl rfl 17 (by decide) (gW hts 1 (.fieldLink RX7 189 "SnowDispatcherModel" "taped" "I") rfl) (fun _ h9 => h9) rfl (by decide +kernel) rfl rfl (Nat.le_of_ble_eq_true rfl) dX7_type_65 (fun H locs hP hD hS => ?_)
      have hP : va_P g.1 vwCl (List.flatten [kMo g a_mo a_ms a_mwas a_mtried a_msaved a_mpast a_mfar a_mdrift a_mline a_mtape a_mcommands m_changes m_thrown_v3 m_errorAt m_failedAt m_answer m_isSaved m_lined (m_taped_39 + 1) m_here m_commandMany, kAr g a_mtape 60 (upd m_tape_39 m_taped_39.toNatClampNeg x1)]) H := hP
      have hD : va_D A (List.flatten [kMo g a_mo a_ms a_mwas a_mtried a_msaved a_mpast a_mfar a_mdrift a_mline a_mtape a_mcommands m_changes m_thrown_v3 m_errorAt m_failedAt m_answer m_isSaved m_lined (m_taped_39 + 1) m_here m_commandMany, kAr g a_mtape 60 (upd m_tape_39 m_taped_39.toNatClampNeg x1)]) := hD
      refine lv_aload_n hx hb dX7_type_68 rfl (lv_at hl 0 rfl) ?_
      refine va_get (D := g.1) (ci := 11) (v := .int (m_taped_39 + 1)) (C := RX7) (T := TX7) (N := 20) hx hb hts inX7_type_X7 hown hE.1 hP 0 rfl rfl 17 (by decide) (gW hts 1 (.fieldLink RX7 189 "SnowDispatcherModel" "taped" "I") rfl) (fun _ h9 => h9) rfl dX7_type_69 ?_
      subst hQ
      exact W.iret hx hb hr (gRi3 (c1 := m_thrown_v3) (c2 := (m_taped_39 + 1)) (c3 := (upd m_tape_39 m_taped_39.toNatClampNeg x1)) (wf := _) hA0 hsz hw hP hD hS) hS.2.2 dX7_type_72
    · have hw := hw.2 c_43
      refine lv_iconst (v := 0) hx hb dX7_type_46 (by decide) ?_
      subst hQ
      exact W.iret hx hb hr (gRi3 (c1 := m_thrown_v3) (c2 := m_taped_39) (c3 := m_tape_39) (wf := _) hA0 hsz hw hP hD hS) hS.2.2 dX7_type_47
  have J17 : ∀ (z1_17 : Int32) (m_thrown_17 : Int32) (m_taped_17 : Int32) (m_tape_17 : Nat → Int32) (H : Heap) (locs : List Loc) (ls : Array Slot), wpX7_type_L17 x1 post z1_17 m_thrown_17 m_taped_17 m_tape_17 → va_P g.1 vwCl (List.flatten [kMo g a_mo a_ms a_mwas a_mtried a_msaved a_mpast a_mfar a_mdrift a_mline a_mtape a_mcommands m_changes m_thrown_17 m_errorAt m_failedAt m_answer m_isSaved m_lined m_taped_17 m_here m_commandMany, kAr g a_mtape 60 m_tape_17]) H → va_D A (List.flatten [kMo g a_mo a_ms a_mwas a_mtried a_msaved a_mpast a_mfar a_mdrift a_mline a_mtape a_mcommands m_changes m_thrown_17 m_errorAt m_failedAt m_answer m_isSaved m_lined m_taped_17 m_here m_commandMany, kAr g a_mtape 60 m_tape_17]) → va_S A s.heap H locs → lv_has ls 2 [(0, .ref (a_mo 0)), (1, .int x1)] → W p l e rmX7_type s m (([.ref (a_mo 0), .int x1] : List Value).toArray) below meth c H locs 0 0 Q (F0 m 17 ls [.int z1_17, .ref (a_mo 0)]) := by
    intro z1_17 m_thrown_17 m_taped_17 m_tape_17 H locs ls hw hP hD hS hl
    refine lv_iconst (v := 1) hx hb dX7_type_17 (by decide) ?_
    refine gCi1 (gRunV (As := [.int z1_17, .int 1]) (rest := []) ⟨hx, hb, hml, hown, hts⟩ (ctX7_isThrown l g a_mo a_ms a_mwas a_mtried a_msaved a_mpast a_mfar a_mdrift a_mline a_mtape a_mcommands _ m_changes m_thrown_17 m_errorAt m_failedAt m_answer m_isSaved m_lined m_taped_17 m_here m_commandMany z1_17 1 hw) (cwV 2 hts gX7_type_X7_isThrown rfl rfl rfl (by decide +kernel) ⟨Nat.le_of_ble_eq_true rfl, Nat.le_of_ble_eq_true rfl⟩) hE (gSub hP [0]) (gDSub hD [0] rfl) 0 11 rfl rfl rfl rfl rfl hl.1 rfl (lv_room (Nat.le_of_ble_eq_true rfl)) dX7_type_18 ⟨Nat.le_of_ble_eq_true rfl, Nat.le_of_ble_eq_true rfl⟩) hP hD hS hA [0] rfl (fun _ => rfl) rfl (fun r2 m_thrown_v2 H locs hw hP hD hS => ?_)
    have hP : va_P g.1 vwCl (List.flatten [kMo g a_mo a_ms a_mwas a_mtried a_msaved a_mpast a_mfar a_mdrift a_mline a_mtape a_mcommands m_changes m_thrown_v2 m_errorAt m_failedAt m_answer m_isSaved m_lined m_taped_17 m_here m_commandMany, kAr g a_mtape 60 m_tape_17]) H := hP
    have hD : va_D A (List.flatten [kMo g a_mo a_ms a_mwas a_mtried a_msaved a_mpast a_mfar a_mdrift a_mline a_mtape a_mcommands m_changes m_thrown_v2 m_errorAt m_failedAt m_answer m_isSaved m_lined m_taped_17 m_here m_commandMany, kAr g a_mtape 60 m_tape_17]) := hD
    refine lv_if_ne (tgt := 46) hx hb dX7_type_21 (by decide) (fun c_21 => ?_) (fun c_21 => ?_)
    · have hw := hw.1 c_21
      refine lv_iconst (v := 0) hx hb dX7_type_46 (by decide) ?_
      subst hQ
      exact W.iret hx hb hr (gRi3 (c1 := m_thrown_v2) (c2 := m_taped_17) (c3 := m_tape_17) (wf := _) hA0 hsz hw hP hD hS) hS.2.2 dX7_type_47
    · have hw := hw.2 c_21
      refine lv_aload_n hx hb dX7_type_24 rfl (lv_at hl 0 rfl) ?_
      refine lv_aload_n hx hb dX7_type_25 rfl (lv_at hl 0 rfl) ?_
      refine va_get (D := g.1) (ci := 11) (v := .int m_taped_17) (C := RX7) (T := TX7) (N := 20) hx hb hts inX7_type_X7 hown hE.1 hP 0 rfl rfl 17 (by decide) (gW hts 1 (.fieldLink RX7 189 "SnowDispatcherModel" "taped" "I") rfl) (fun _ h9 => h9) rfl dX7_type_26 ?_
      refine lv_bipush (v := 60) hx hb dX7_type_29 (by decide) ?_
      refine lv_icmp_ne (tgt := 38) hx hb dX7_type_31 (by decide) (fun c_31 => ?_) (fun c_31 => ?_)
      · have hw := hw.1 c_31
        refine lv_iconst (v := 0) hx hb dX7_type_38 (by decide) ?_
        exact J39 0 m_thrown_v2 m_taped_17 m_tape_17 _ _ _ hw hP hD hS (lv_sub hl [0, 1] rfl)
      · have hw := hw.2 c_31
        refine lv_iconst (v := 1) hx hb dX7_type_34 (by decide) ?_
        refine lv_goto (tgt := 39) hx hb dX7_type_35 (by decide) ?_
        exact J39 1 m_thrown_v2 m_taped_17 m_tape_17 _ _ _ hw hP hD hS (lv_sub hl [0, 1] rfl)
  refine lv_aload_n hx hb dX7_type_0 rfl (lv_at hl 0 rfl) ?_
  refine lv_iload_n hx hb dX7_type_1 rfl (lv_at hl 1 rfl) ?_
  refine lv_bipush (v := 32) hx hb dX7_type_2 (by decide) ?_
  refine lv_bipush (v := 126) hx hb dX7_type_4 (by decide) ?_
  refine gCi0 (gRunS (As := [.int x1, .int 32, .int 126]) (rest := [.ref (a_mo 0)]) ⟨hx, hb, hml, hown, hts⟩ (ctX7_isIn l g _ x1 32 126 hw) (va_cwS 3 hts gX7_type_X7_isIn rfl rfl rfl (by decide +kernel) ⟨Nat.le_of_ble_eq_true rfl, Nat.le_of_ble_eq_true rfl⟩) hE (gSub hP []) (gDSub hD [] rfl) rfl rfl hl.1 rfl (lv_room (Nat.le_of_ble_eq_true rfl)) dX7_type_6 ⟨Nat.le_of_ble_eq_true rfl, Nat.le_of_ble_eq_true rfl⟩) hP hD hS hA [] rfl rfl rfl (fun r1 H locs hw hP hD hS => ?_)
  have hP : va_P g.1 vwCl (List.flatten [kMo g a_mo a_ms a_mwas a_mtried a_msaved a_mpast a_mfar a_mdrift a_mline a_mtape a_mcommands m_changes m_thrown m_errorAt m_failedAt m_answer m_isSaved m_lined m_taped m_here m_commandMany, kAr g a_mtape 60 m_tape]) H := hP
  have hD : va_D A (List.flatten [kMo g a_mo a_ms a_mwas a_mtried a_msaved a_mpast a_mfar a_mdrift a_mline a_mtape a_mcommands m_changes m_thrown m_errorAt m_failedAt m_answer m_isSaved m_lined m_taped m_here m_commandMany, kAr g a_mtape 60 m_tape]) := hD
  refine lv_if_ne (tgt := 16) hx hb dX7_type_9 (by decide) (fun c_9 => ?_) (fun c_9 => ?_)
  · have hw := hw.1 c_9
    refine lv_iconst (v := 0) hx hb dX7_type_16 (by decide) ?_
    exact J17 0 m_thrown m_taped m_tape _ _ _ hw hP hD hS (lv_sub hl [0, 1] rfl)
  · have hw := hw.2 c_9
    refine lv_iconst (v := 1) hx hb dX7_type_12 (by decide) ?_
    refine lv_goto (tgt := 17) hx hb dX7_type_13 (by decide) ?_
    exact J17 1 m_thrown m_taped m_tape _ _ _ hw hP hD hS (lv_sub hl [0, 1] rfl)
abbrev rmX7_sign : Room := { frames := 1, cells := 0, slots := 0, locals := 100 }
set_option maxRecDepth 20000 in
theorem inX7_sign_X7 : ∀ w ∈ wsX70, w ∈ wsX7_sign := by decide +kernel
set_option maxHeartbeats 4000000 in
set_option maxRecDepth 100000 in
theorem ctX7_sign (l : Launch) (g : GG) (a_mo : Nat → Nat) (a_ms : Nat → Nat) (a_mwas : Nat → Nat) (a_mtried : Nat → Nat) (a_msaved : Nat → Nat) (a_mpast : Nat → Nat) (a_mfar : Nat → Nat) (a_mdrift : Nat → Nat) (a_mline : Nat → Nat) (a_mtape : Nat → Nat) (a_mcommands : Nat → Nat) (sz : Nat) (m_changes : Int32) (m_thrown : Int32) (m_errorAt : Int32) (m_failedAt : Int32) (m_answer : Int32) (m_isSaved : Int32) (m_lined : Int32) (m_taped : Int32) (m_here : Int32) (m_commandMany : Int32) (m_tape : Nat → Int32) {post : Int32 → Prop} (hw : wpX7_sign m_taped m_here m_tape post) :
    Met l yX7_sign wsX7_sign rmX7_sign (gPc g sz (List.flatten [kMo g a_mo a_ms a_mwas a_mtried a_msaved a_mpast a_mfar a_mdrift a_mline a_mtape a_mcommands m_changes m_thrown m_errorAt m_failedAt m_answer m_isSaved m_lined m_taped m_here m_commandMany, kAr g a_mtape 60 m_tape]) [.ref (a_mo 0)]) (gQi0 post (gB g (List.flatten [kMo g a_mo a_ms a_mwas a_mtried a_msaved a_mpast a_mfar a_mdrift a_mline a_mtape a_mcommands m_changes m_thrown m_errorAt m_failedAt m_answer m_isSaved m_lined m_taped m_here m_commandMany, kAr g a_mtape 60 m_tape]) sz (List.flatten [kMo g a_mo a_ms a_mwas a_mtried a_msaved a_mpast a_mfar a_mdrift a_mline a_mtape a_mcommands m_changes m_thrown m_errorAt m_failedAt m_answer m_isSaved m_lined m_taped m_here m_commandMany, kAr g a_mtape 60 m_tape])) (va_A (List.flatten [kMo g a_mo a_ms a_mwas a_mtried a_msaved a_mpast a_mfar a_mdrift a_mline a_mtape a_mcommands m_changes m_thrown m_errorAt m_failedAt m_answer m_isSaved m_lined m_taped m_here m_commandMany, kAr g a_mtape 60 m_tape]) sz)) 0 0 (va_A (List.flatten [kMo g a_mo a_ms a_mwas a_mtried a_msaved a_mpast a_mfar a_mdrift a_mline a_mtape a_mcommands m_changes m_thrown m_errorAt m_failedAt m_answer m_isSaved m_lined m_taped m_here m_commandMany, kAr g a_mtape 60 m_tape]) sz) := by
  refine gOf (cc := cX7_sign) (maxL := 1) (ret := (some .int)) (by decide) rfl (Nat.le_of_ble_eq_true rfl) ?_
  intro p e s m below meth c ls Q A hQ hx hb hr hml hts hown hlocks hE hA0 hsz hP hD hA hS hl
  have hl : lv_has ls 1 [(0, .ref (a_mo 0))] := hl
  refine lv_aload_n hx hb dX7_sign_0 rfl (lv_at hl 0 rfl) ?_
  refine va_get (D := g.1) (ci := 11) (v := .int m_here) (C := RX7) (T := TX7) (N := 20) hx hb hts inX7_sign_X7 hown hE.1 hP 0 rfl rfl 18 (by decide) (gW hts 1 (.fieldLink RX7 192 "SnowDispatcherModel" "here" "I") rfl) (fun _ h9 => h9) rfl dX7_sign_1 ?_
  refine lv_aload_n hx hb dX7_sign_4 rfl (lv_at hl 0 rfl) ?_
  refine va_get (D := g.1) (ci := 11) (v := .int m_taped) (C := RX7) (T := TX7) (N := 20) hx hb hts inX7_sign_X7 hown hE.1 hP 0 rfl rfl 17 (by decide) (gW hts 2 (.fieldLink RX7 189 "SnowDispatcherModel" "taped" "I") rfl) (fun _ h9 => h9) rfl dX7_sign_5 ?_
  refine lv_icmp_ge (tgt := 23) hx hb dX7_sign_8 (by decide) (fun c_8 => ?_) (fun c_8 => ?_)
  · have hw := hw.1 c_8
    refine lv_iconst (v := (-1)) hx hb dX7_sign_23 (by decide) ?_
    subst hQ
    exact W.iret hx hb hr (gRi0 (wf := _) hA0 hsz hw hP hD hS) hS.2.2 dX7_sign_24
  · have hw := hw.2 c_8
    refine lv_aload_n hx hb dX7_sign_11 rfl (lv_at hl 0 rfl) ?_
    refine va_get (D := g.1) (ci := 11) (v := .ref (a_mtape 0)) (C := RX7) (T := TX7) (N := 20) hx hb hts inX7_sign_X7 hown hE.1 hP 0 rfl rfl 15 (by decide) (gW hts 3 (.fieldLink RX7 41 "SnowDispatcherModel" "tape" "[I") rfl) (fun _ h9 => h9) rfl dX7_sign_12 ?_
    refine lv_aload_n hx hb dX7_sign_15 rfl (lv_at hl 0 rfl) ?_
    refine va_get (D := g.1) (ci := 11) (v := .int m_here) (C := RX7) (T := TX7) (N := 20) hx hb hts inX7_sign_X7 hown hE.1 hP 0 rfl rfl 18 (by decide) (gW hts 1 (.fieldLink RX7 192 "SnowDispatcherModel" "here" "I") rfl) (fun _ h9 => h9) rfl dX7_sign_16 ?_
    have h1 := hw.1
    have hw := hw.2
    refine va_iald hx hb hE.1 hP 1 0 rfl rfl h1 dX7_sign_19 ?_
    refine lv_goto (tgt := 24) hx hb dX7_sign_20 (by decide) ?_
    subst hQ
    exact W.iret hx hb hr (gRi0 (wf := _) hA0 hsz hw hP hD hS) hS.2.2 dX7_sign_24
abbrev rmX7_isSign : Room := { frames := 2, cells := 0, slots := 0, locals := 121 }
set_option maxRecDepth 20000 in
theorem inX7_isSign_X7 : ∀ w ∈ wsX70, w ∈ wsX7_isSign := by decide +kernel
set_option maxHeartbeats 4000000 in
set_option maxRecDepth 100000 in
theorem ctX7_isSign (l : Launch) (g : GG) (a_mo : Nat → Nat) (a_ms : Nat → Nat) (a_mwas : Nat → Nat) (a_mtried : Nat → Nat) (a_msaved : Nat → Nat) (a_mpast : Nat → Nat) (a_mfar : Nat → Nat) (a_mdrift : Nat → Nat) (a_mline : Nat → Nat) (a_mtape : Nat → Nat) (a_mcommands : Nat → Nat) (sz : Nat) (m_changes : Int32) (m_thrown : Int32) (m_errorAt : Int32) (m_failedAt : Int32) (m_answer : Int32) (m_isSaved : Int32) (m_lined : Int32) (m_taped : Int32) (m_here : Int32) (m_commandMany : Int32) (m_tape : Nat → Int32) (x1 : Int32) {post : Int32 → Int32 → Prop} (hw : wpX7_isSign x1 m_taped m_here m_tape post) :
    Met l yX7_isSign wsX7_isSign rmX7_isSign (gPc g sz (List.flatten [kMo g a_mo a_ms a_mwas a_mtried a_msaved a_mpast a_mfar a_mdrift a_mline a_mtape a_mcommands m_changes m_thrown m_errorAt m_failedAt m_answer m_isSaved m_lined m_taped m_here m_commandMany, kAr g a_mtape 60 m_tape]) [.ref (a_mo 0), .int x1]) (gQi1 post (fun u1 => gB g (List.flatten [kMo g a_mo a_ms a_mwas a_mtried a_msaved a_mpast a_mfar a_mdrift a_mline a_mtape a_mcommands m_changes m_thrown m_errorAt m_failedAt m_answer m_isSaved m_lined m_taped m_here m_commandMany, kAr g a_mtape 60 m_tape]) sz (List.flatten [kMo g a_mo a_ms a_mwas a_mtried a_msaved a_mpast a_mfar a_mdrift a_mline a_mtape a_mcommands m_changes m_thrown m_errorAt m_failedAt m_answer m_isSaved m_lined m_taped u1 m_commandMany, kAr g a_mtape 60 m_tape])) (va_A (List.flatten [kMo g a_mo a_ms a_mwas a_mtried a_msaved a_mpast a_mfar a_mdrift a_mline a_mtape a_mcommands m_changes m_thrown m_errorAt m_failedAt m_answer m_isSaved m_lined m_taped m_here m_commandMany, kAr g a_mtape 60 m_tape]) sz)) 0 0 (va_A (List.flatten [kMo g a_mo a_ms a_mwas a_mtried a_msaved a_mpast a_mfar a_mdrift a_mline a_mtape a_mcommands m_changes m_thrown m_errorAt m_failedAt m_answer m_isSaved m_lined m_taped m_here m_commandMany, kAr g a_mtape 60 m_tape]) sz) := by
  refine gOf (cc := cX7_isSign) (maxL := 3) (ret := (some .boolean)) (by decide) rfl (Nat.le_of_ble_eq_true rfl) ?_
  intro p e s m below meth c ls Q A hQ hx hb hr hml hts hown hlocks hE hA0 hsz hP hD hA hS hl
  have hl : lv_has ls 3 [(0, .ref (a_mo 0)), (1, .int x1)] := hl
  have J13 : ∀ (z0_13 : Int32) (m_here_13 : Int32) (H : Heap) (locs : List Loc) (ls : Array Slot), wpX7_isSign_L13 m_taped m_tape post z0_13 m_here_13 → va_P g.1 vwCl (List.flatten [kMo g a_mo a_ms a_mwas a_mtried a_msaved a_mpast a_mfar a_mdrift a_mline a_mtape a_mcommands m_changes m_thrown m_errorAt m_failedAt m_answer m_isSaved m_lined m_taped m_here_13 m_commandMany, kAr g a_mtape 60 m_tape]) H → va_D A (List.flatten [kMo g a_mo a_ms a_mwas a_mtried a_msaved a_mpast a_mfar a_mdrift a_mline a_mtape a_mcommands m_changes m_thrown m_errorAt m_failedAt m_answer m_isSaved m_lined m_taped m_here_13 m_commandMany, kAr g a_mtape 60 m_tape]) → va_S A s.heap H locs → lv_has ls 3 [(0, .ref (a_mo 0))] → W p l e rmX7_isSign s m (([.ref (a_mo 0), .int x1] : List Value).toArray) below meth c H locs 0 0 Q (F0 m 13 ls [.int z0_13]) := by
    intro z0_13 m_here_13 H locs ls hw hP hD hS hl
    refine lv_istore_n (lv' := [(2, .int z0_13), (0, .ref (a_mo 0))]) hx hb dX7_isSign_13 rfl hl (by decide) rfl (fun ls hl => ?_)
    refine lv_aload_n hx hb dX7_isSign_14 rfl (lv_at hl 1 rfl) ?_
    refine lv_dup hx hb dX7_isSign_15 rfl ?_
    refine va_get (D := g.1) (ci := 11) (v := .int m_here_13) (C := RX7) (T := TX7) (N := 20) hx hb hts inX7_isSign_X7 hown hE.1 hP 0 rfl rfl 18 (by decide) (gW hts 1 (.fieldLink RX7 192 "SnowDispatcherModel" "here" "I") rfl) (fun _ h9 => h9) rfl dX7_isSign_16 ?_
    refine lv_iload_n hx hb dX7_isSign_19 rfl (lv_at hl 0 rfl) ?_
    refine lv_if_eq (tgt := 27) hx hb dX7_isSign_20 (by decide) (fun c_20 => ?_) (fun c_20 => ?_)
    · have hw := hw.1 c_20
      refine lv_iconst (v := 0) hx hb dX7_isSign_27 (by decide) ?_
      refine lv_iadd hx hb dX7_isSign_28 ?_
      refine va_put (D := g.1) (ci := 11) (v := .int (m_here_13 + 0)) (ty := .int) (C := RX7) (T := TX7) (N := 20) hx hb hts inX7_isSign_X7 tyX7 tyX7_ok nmX7 hown hE.1 hP hD hS 0 rfl rfl 18 (by decide) (gW hts 1 (.fieldLink RX7 192 "SnowDispatcherModel" "here" "I") rfl) (fun _ h9 => h9) rfl (by decide +kernel) rfl rfl (Nat.le_of_ble_eq_true rfl) dX7_isSign_29 (fun H locs hP hD hS => ?_)
      have hP : va_P g.1 vwCl (List.flatten [kMo g a_mo a_ms a_mwas a_mtried a_msaved a_mpast a_mfar a_mdrift a_mline a_mtape a_mcommands m_changes m_thrown m_errorAt m_failedAt m_answer m_isSaved m_lined m_taped (m_here_13 + 0) m_commandMany, kAr g a_mtape 60 m_tape]) H := hP
      have hD : va_D A (List.flatten [kMo g a_mo a_ms a_mwas a_mtried a_msaved a_mpast a_mfar a_mdrift a_mline a_mtape a_mcommands m_changes m_thrown m_errorAt m_failedAt m_answer m_isSaved m_lined m_taped (m_here_13 + 0) m_commandMany, kAr g a_mtape 60 m_tape]) := hD
      refine lv_iload_n hx hb dX7_isSign_32 rfl (lv_at hl 0 rfl) ?_
      have h2 := hw.1
      have hw := hw.2
      subst hQ
      exact W.zret (ty := .boolean) hx hb hr h2 (gRi1 (c1 := (m_here_13 + 0)) (wf := _) hA0 hsz hw hP hD hS) hS.2.2 dX7_isSign_33
    · have hw := hw.2 c_20
      refine lv_iconst (v := 1) hx hb dX7_isSign_23 (by decide) ?_
      refine lv_goto (tgt := 28) hx hb dX7_isSign_24 (by decide) ?_
      refine lv_iadd hx hb dX7_isSign_28 ?_
      refine va_put (D := g.1) (ci := 11) (v := .int (m_here_13 + 1)) (ty := .int) (C := RX7) (T := TX7) (N := 20) hx hb hts inX7_isSign_X7 tyX7 tyX7_ok nmX7 hown hE.1 hP hD hS 0 rfl rfl 18 (by decide) (gW hts 1 (.fieldLink RX7 192 "SnowDispatcherModel" "here" "I") rfl) (fun _ h9 => h9) rfl (by decide +kernel) rfl rfl (Nat.le_of_ble_eq_true rfl) dX7_isSign_29 (fun H locs hP hD hS => ?_)
      have hP : va_P g.1 vwCl (List.flatten [kMo g a_mo a_ms a_mwas a_mtried a_msaved a_mpast a_mfar a_mdrift a_mline a_mtape a_mcommands m_changes m_thrown m_errorAt m_failedAt m_answer m_isSaved m_lined m_taped (m_here_13 + 1) m_commandMany, kAr g a_mtape 60 m_tape]) H := hP
      have hD : va_D A (List.flatten [kMo g a_mo a_ms a_mwas a_mtried a_msaved a_mpast a_mfar a_mdrift a_mline a_mtape a_mcommands m_changes m_thrown m_errorAt m_failedAt m_answer m_isSaved m_lined m_taped (m_here_13 + 1) m_commandMany, kAr g a_mtape 60 m_tape]) := hD
      refine lv_iload_n hx hb dX7_isSign_32 rfl (lv_at hl 0 rfl) ?_
      have h3 := hw.1
      have hw := hw.2
      subst hQ
      exact W.zret (ty := .boolean) hx hb hr h3 (gRi1 (c1 := (m_here_13 + 1)) (wf := _) hA0 hsz hw hP hD hS) hS.2.2 dX7_isSign_33
  refine lv_aload_n hx hb dX7_isSign_0 rfl (lv_at hl 0 rfl) ?_
  refine gCi0 (gRunV (As := []) (rest := []) ⟨hx, hb, hml, hown, hts⟩ (ctX7_sign l g a_mo a_ms a_mwas a_mtried a_msaved a_mpast a_mfar a_mdrift a_mline a_mtape a_mcommands _ m_changes m_thrown m_errorAt m_failedAt m_answer m_isSaved m_lined m_taped m_here m_commandMany m_tape hw) (cwV 0 hts gX7_isSign_X7_sign rfl rfl rfl (by decide +kernel) ⟨Nat.le_of_ble_eq_true rfl, Nat.le_of_ble_eq_true rfl⟩) hE (gSub hP [0, 1]) (gDSub hD [0, 1] rfl) 0 11 rfl rfl rfl rfl rfl hl.1 rfl (lv_room (Nat.le_of_ble_eq_true rfl)) dX7_isSign_1 ⟨Nat.le_of_ble_eq_true rfl, Nat.le_of_ble_eq_true rfl⟩) hP hD hS hA [0, 1] rfl rfl rfl (fun r1 H locs hw hP hD hS => ?_)
  have hP : va_P g.1 vwCl (List.flatten [kMo g a_mo a_ms a_mwas a_mtried a_msaved a_mpast a_mfar a_mdrift a_mline a_mtape a_mcommands m_changes m_thrown m_errorAt m_failedAt m_answer m_isSaved m_lined m_taped m_here m_commandMany, kAr g a_mtape 60 m_tape]) H := hP
  have hD : va_D A (List.flatten [kMo g a_mo a_ms a_mwas a_mtried a_msaved a_mpast a_mfar a_mdrift a_mline a_mtape a_mcommands m_changes m_thrown m_errorAt m_failedAt m_answer m_isSaved m_lined m_taped m_here m_commandMany, kAr g a_mtape 60 m_tape]) := hD
  refine lv_iload_n hx hb dX7_isSign_4 rfl (lv_at hl 1 rfl) ?_
  refine lv_icmp_ne (tgt := 12) hx hb dX7_isSign_5 (by decide) (fun c_5 => ?_) (fun c_5 => ?_)
  · have hw := hw.1 c_5
    refine lv_iconst (v := 0) hx hb dX7_isSign_12 (by decide) ?_
    exact J13 0 m_here _ _ _ hw hP hD hS (lv_sub hl [0] rfl)
  · have hw := hw.2 c_5
    refine lv_iconst (v := 1) hx hb dX7_isSign_8 (by decide) ?_
    refine lv_goto (tgt := 13) hx hb dX7_isSign_9 (by decide) ?_
    exact J13 1 m_here _ _ _ hw hP hD hS (lv_sub hl [0] rfl)
abbrev rmX7_isNumber : Room := { frames := 2, cells := 0, slots := 0, locals := 123 }
set_option maxRecDepth 20000 in
theorem inX7_isNumber_X7 : ∀ w ∈ wsX70, w ∈ wsX7_isNumber := by decide +kernel
set_option maxHeartbeats 4000000 in
set_option maxRecDepth 100000 in
theorem ctX7_isNumber (l : Launch) (g : GG) (a_mo : Nat → Nat) (a_ms : Nat → Nat) (a_mwas : Nat → Nat) (a_mtried : Nat → Nat) (a_msaved : Nat → Nat) (a_mpast : Nat → Nat) (a_mfar : Nat → Nat) (a_mdrift : Nat → Nat) (a_mline : Nat → Nat) (a_mtape : Nat → Nat) (a_mcommands : Nat → Nat) (sz : Nat) (m_changes : Int32) (m_thrown : Int32) (m_errorAt : Int32) (m_failedAt : Int32) (m_answer : Int32) (m_isSaved : Int32) (m_lined : Int32) (m_taped : Int32) (m_here : Int32) (m_commandMany : Int32) (m_tape : Nat → Int32) (m_commands : Nat → Int32) (x1 : Int32) (x2 : Int32) {post : Int32 → Int32 → (Nat → Int32) → Prop} (hw : wpX7_isNumber x1 x2 m_taped m_here m_tape m_commands post) :
    Met l yX7_isNumber wsX7_isNumber rmX7_isNumber (gPc g sz (List.flatten [kMo g a_mo a_ms a_mwas a_mtried a_msaved a_mpast a_mfar a_mdrift a_mline a_mtape a_mcommands m_changes m_thrown m_errorAt m_failedAt m_answer m_isSaved m_lined m_taped m_here m_commandMany, kAr g a_mtape 60 m_tape, kAr g a_mcommands 155 m_commands]) [.ref (a_mo 0), .int x1, .int x2]) (gQi2 post (fun u1 u2 => gB g (List.flatten [kMo g a_mo a_ms a_mwas a_mtried a_msaved a_mpast a_mfar a_mdrift a_mline a_mtape a_mcommands m_changes m_thrown m_errorAt m_failedAt m_answer m_isSaved m_lined m_taped m_here m_commandMany, kAr g a_mtape 60 m_tape, kAr g a_mcommands 155 m_commands]) sz (List.flatten [kMo g a_mo a_ms a_mwas a_mtried a_msaved a_mpast a_mfar a_mdrift a_mline a_mtape a_mcommands m_changes m_thrown m_errorAt m_failedAt m_answer m_isSaved m_lined m_taped u1 m_commandMany, kAr g a_mtape 60 m_tape, kAr g a_mcommands 155 u2])) (va_A (List.flatten [kMo g a_mo a_ms a_mwas a_mtried a_msaved a_mpast a_mfar a_mdrift a_mline a_mtape a_mcommands m_changes m_thrown m_errorAt m_failedAt m_answer m_isSaved m_lined m_taped m_here m_commandMany, kAr g a_mtape 60 m_tape, kAr g a_mcommands 155 m_commands]) sz)) 0 0 (va_A (List.flatten [kMo g a_mo a_ms a_mwas a_mtried a_msaved a_mpast a_mfar a_mdrift a_mline a_mtape a_mcommands m_changes m_thrown m_errorAt m_failedAt m_answer m_isSaved m_lined m_taped m_here m_commandMany, kAr g a_mtape 60 m_tape, kAr g a_mcommands 155 m_commands]) sz) := by
  refine gOf (cc := cX7_isNumber) (maxL := 5) (ret := (some .boolean)) (by decide) rfl (Nat.le_of_ble_eq_true rfl) ?_
  intro p e s m below meth c ls Q A hQ hx hb hr hml hts hown hlocks hE hA0 hsz hP hD hA hS hl
  have hl : lv_has ls 5 [(0, .ref (a_mo 0)), (1, .int x1), (2, .int x2)] := hl
  have J54 : ∀ (x3_54 : Int32) (x4_54 : Int32) (m_here_54 : Int32) (m_commands_54 : Nat → Int32) (H : Heap) (locs : List Loc) (ls : Array Slot), wpX7_isNumber_L54 x2 m_taped m_tape post x3_54 x4_54 m_here_54 m_commands_54 → va_P g.1 vwCl (List.flatten [kMo g a_mo a_ms a_mwas a_mtried a_msaved a_mpast a_mfar a_mdrift a_mline a_mtape a_mcommands m_changes m_thrown m_errorAt m_failedAt m_answer m_isSaved m_lined m_taped m_here_54 m_commandMany, kAr g a_mtape 60 m_tape, kAr g a_mcommands 155 m_commands_54]) H → va_D A (List.flatten [kMo g a_mo a_ms a_mwas a_mtried a_msaved a_mpast a_mfar a_mdrift a_mline a_mtape a_mcommands m_changes m_thrown m_errorAt m_failedAt m_answer m_isSaved m_lined m_taped m_here_54 m_commandMany, kAr g a_mtape 60 m_tape, kAr g a_mcommands 155 m_commands_54]) → va_S A s.heap H locs → lv_has ls 5 [(0, .ref (a_mo 0)), (2, .int x2), (3, .int x3_54), (4, .int x4_54)] → W p l e rmX7_isNumber s m (([.ref (a_mo 0), .int x1, .int x2] : List Value).toArray) below meth c H locs 0 0 Q (F0 m 54 ls []) := by
    intro x3_54 x4_54 m_here_54 m_commands_54 H locs ls hw hP hD hS hl
    refine lv_aload_n hx hb dX7_isNumber_54 rfl (lv_at hl 0 rfl) ?_
    refine va_get (D := g.1) (ci := 11) (v := .ref (a_mcommands 0)) (C := RX7) (T := TX7) (N := 20) hx hb hts inX7_isNumber_X7 hown hE.1 hP 0 rfl rfl 16 (by decide) (gW hts 2 (.fieldLink RX7 44 "SnowDispatcherModel" "commands" "[I") rfl) (fun _ h9 => h9) rfl dX7_isNumber_55 ?_
    refine lv_iload_n hx hb dX7_isNumber_58 rfl (lv_at hl 1 rfl) ?_
    refine lv_iload_n hx hb dX7_isNumber_59 rfl (lv_at hl 2 rfl) ?_
    have h1 := hw.1
    have hw := hw.2
    refine va_iast hx hb hE.1 hP hD hS 2 0 rfl rfl h1 dX7_isNumber_60 (fun H locs hP hD hS => ?_)
    have hP : va_P g.1 vwCl (List.flatten [kMo g a_mo a_ms a_mwas a_mtried a_msaved a_mpast a_mfar a_mdrift a_mline a_mtape a_mcommands m_changes m_thrown m_errorAt m_failedAt m_answer m_isSaved m_lined m_taped m_here_54 m_commandMany, kAr g a_mtape 60 m_tape, kAr g a_mcommands 155 (upd m_commands_54 x2.toNatClampNeg x3_54)]) H := hP
    have hD : va_D A (List.flatten [kMo g a_mo a_ms a_mwas a_mtried a_msaved a_mpast a_mfar a_mdrift a_mline a_mtape a_mcommands m_changes m_thrown m_errorAt m_failedAt m_answer m_isSaved m_lined m_taped m_here_54 m_commandMany, kAr g a_mtape 60 m_tape, kAr g a_mcommands 155 (upd m_commands_54 x2.toNatClampNeg x3_54)]) := hD
    refine lv_iload hx hb dX7_isNumber_61 (lv_at hl 3 rfl) ?_
    refine lv_if_le (tgt := 70) hx hb dX7_isNumber_63 (by decide) (fun c_63 => ?_) (fun c_63 => ?_)
    · have hw := hw.1 c_63
      refine lv_iconst (v := 0) hx hb dX7_isNumber_70 (by decide) ?_
      subst hQ
      exact W.zret (ty := .boolean) hx hb hr (by decide) (gRi2 (c1 := m_here_54) (c2 := (upd m_commands_54 x2.toNatClampNeg x3_54)) (wf := _) hA0 hsz hw hP hD hS) hS.2.2 dX7_isNumber_71
    · have hw := hw.2 c_63
      refine lv_iconst (v := 1) hx hb dX7_isNumber_66 (by decide) ?_
      refine lv_goto (tgt := 71) hx hb dX7_isNumber_67 (by decide) ?_
      subst hQ
      exact W.zret (ty := .boolean) hx hb hr (by decide) (gRi2 (c1 := m_here_54) (c2 := (upd m_commands_54 x2.toNatClampNeg x3_54)) (wf := _) hA0 hsz hw hP hD hS) hS.2.2 dX7_isNumber_71
  have L5 : ∀ (n : Nat) (m_commands_5 : Nat → Int32) (x3_5 : Int32) (x4_5 : Int32) (m_here_5 : Int32) (H : Heap) (locs : List Loc) (ls : Array Slot), wpX7_isNumber_L5 x1 x2 m_taped m_tape m_commands_5 post n x3_5 x4_5 m_here_5 → va_P g.1 vwCl (List.flatten [kMo g a_mo a_ms a_mwas a_mtried a_msaved a_mpast a_mfar a_mdrift a_mline a_mtape a_mcommands m_changes m_thrown m_errorAt m_failedAt m_answer m_isSaved m_lined m_taped m_here_5 m_commandMany, kAr g a_mtape 60 m_tape, kAr g a_mcommands 155 m_commands_5]) H → va_D A (List.flatten [kMo g a_mo a_ms a_mwas a_mtried a_msaved a_mpast a_mfar a_mdrift a_mline a_mtape a_mcommands m_changes m_thrown m_errorAt m_failedAt m_answer m_isSaved m_lined m_taped m_here_5 m_commandMany, kAr g a_mtape 60 m_tape, kAr g a_mcommands 155 m_commands_5]) → va_S A s.heap H locs → lv_has ls 5 [(0, .ref (a_mo 0)), (1, .int x1), (2, .int x2), (3, .int x3_5), (4, .int x4_5)] → W p l e rmX7_isNumber s m (([.ref (a_mo 0), .int x1, .int x2] : List Value).toArray) below meth c H locs 0 0 Q (F0 m 5 ls []) := by
    intro n_5
    induction n_5 with
    | zero => intro m_commands_5 x3_5 x4_5 m_here_5 H locs ls hw; exact False.elim hw
    | succ n_5 ih_5 =>
      intro m_commands_5 x3_5 x4_5 m_here_5 H locs ls hw hP hD hS hl
      refine lv_iload hx hb dX7_isNumber_5 (lv_at hl 4 rfl) ?_
      refine lv_iload_n hx hb dX7_isNumber_7 rfl (lv_at hl 1 rfl) ?_
      refine lv_icmp_ge (tgt := 54) hx hb dX7_isNumber_8 (by decide) (fun c_8 => ?_) (fun c_8 => ?_)
      · have hw := hw.1 c_8
        exact J54 x3_5 x4_5 m_here_5 m_commands_5 _ _ _ hw hP hD hS (lv_sub hl [0, 2, 3, 4] rfl)
      · have hw := hw.2 c_8
        refine lv_aload_n hx hb dX7_isNumber_11 rfl (lv_at hl 0 rfl) ?_
        refine gCi0 (gRunV (As := []) (rest := []) ⟨hx, hb, hml, hown, hts⟩ (ctX7_sign l g a_mo a_ms a_mwas a_mtried a_msaved a_mpast a_mfar a_mdrift a_mline a_mtape a_mcommands _ m_changes m_thrown m_errorAt m_failedAt m_answer m_isSaved m_lined m_taped m_here_5 m_commandMany m_tape hw) (cwV 0 hts gX7_isNumber_X7_sign rfl rfl rfl (by decide +kernel) ⟨Nat.le_of_ble_eq_true rfl, Nat.le_of_ble_eq_true rfl⟩) hE (gSub hP [0, 1]) (gDSub hD [0, 1] rfl) 0 11 rfl rfl rfl rfl rfl hl.1 rfl (lv_room (Nat.le_of_ble_eq_true rfl)) dX7_isNumber_12 ⟨Nat.le_of_ble_eq_true rfl, Nat.le_of_ble_eq_true rfl⟩) hP hD hS hA [0, 1] rfl rfl rfl (fun r2 H locs hw hP hD hS => ?_)
        have hP : va_P g.1 vwCl (List.flatten [kMo g a_mo a_ms a_mwas a_mtried a_msaved a_mpast a_mfar a_mdrift a_mline a_mtape a_mcommands m_changes m_thrown m_errorAt m_failedAt m_answer m_isSaved m_lined m_taped m_here_5 m_commandMany, kAr g a_mtape 60 m_tape, kAr g a_mcommands 155 m_commands_5]) H := hP
        have hD : va_D A (List.flatten [kMo g a_mo a_ms a_mwas a_mtried a_msaved a_mpast a_mfar a_mdrift a_mline a_mtape a_mcommands m_changes m_thrown m_errorAt m_failedAt m_answer m_isSaved m_lined m_taped m_here_5 m_commandMany, kAr g a_mtape 60 m_tape, kAr g a_mcommands 155 m_commands_5]) := hD
        refine lv_bipush (v := 48) hx hb dX7_isNumber_15 (by decide) ?_
        refine lv_bipush (v := 57) hx hb dX7_isNumber_17 (by decide) ?_
        refine gCi0 (gRunS (As := [.int r2, .int 48, .int 57]) (rest := []) ⟨hx, hb, hml, hown, hts⟩ (ctX7_isIn l g _ r2 48 57 hw) (va_cwS 3 hts gX7_isNumber_X7_isIn rfl rfl rfl (by decide +kernel) ⟨Nat.le_of_ble_eq_true rfl, Nat.le_of_ble_eq_true rfl⟩) hE (gSub hP []) (gDSub hD [] rfl) rfl rfl hl.1 rfl (lv_room (Nat.le_of_ble_eq_true rfl)) dX7_isNumber_19 ⟨Nat.le_of_ble_eq_true rfl, Nat.le_of_ble_eq_true rfl⟩) hP hD hS hA [] rfl rfl rfl (fun r3 H locs hw hP hD hS => ?_)
        have hP : va_P g.1 vwCl (List.flatten [kMo g a_mo a_ms a_mwas a_mtried a_msaved a_mpast a_mfar a_mdrift a_mline a_mtape a_mcommands m_changes m_thrown m_errorAt m_failedAt m_answer m_isSaved m_lined m_taped m_here_5 m_commandMany, kAr g a_mtape 60 m_tape, kAr g a_mcommands 155 m_commands_5]) H := hP
        have hD : va_D A (List.flatten [kMo g a_mo a_ms a_mwas a_mtried a_msaved a_mpast a_mfar a_mdrift a_mline a_mtape a_mcommands m_changes m_thrown m_errorAt m_failedAt m_answer m_isSaved m_lined m_taped m_here_5 m_commandMany, kAr g a_mtape 60 m_tape, kAr g a_mcommands 155 m_commands_5]) := hD
        refine lv_if_eq (tgt := 54) hx hb dX7_isNumber_22 (by decide) (fun c_22 => ?_) (fun c_22 => ?_)
        · have hw := hw.1 c_22
          exact J54 x3_5 x4_5 m_here_5 m_commands_5 _ _ _ hw hP hD hS (lv_sub hl [0, 2, 3, 4] rfl)
        · have hw := hw.2 c_22
          refine lv_bipush (v := 10) hx hb dX7_isNumber_25 (by decide) ?_
          refine lv_iload_n hx hb dX7_isNumber_27 rfl (lv_at hl 3 rfl) ?_
          refine lv_imul hx hb dX7_isNumber_28 ?_
          refine lv_aload_n hx hb dX7_isNumber_29 rfl (lv_at hl 0 rfl) ?_
          refine gCi0 (gRunV (As := []) (rest := [.int (10 * x3_5)]) ⟨hx, hb, hml, hown, hts⟩ (ctX7_sign l g a_mo a_ms a_mwas a_mtried a_msaved a_mpast a_mfar a_mdrift a_mline a_mtape a_mcommands _ m_changes m_thrown m_errorAt m_failedAt m_answer m_isSaved m_lined m_taped m_here_5 m_commandMany m_tape hw) (cwV 0 hts gX7_isNumber_X7_sign rfl rfl rfl (by decide +kernel) ⟨Nat.le_of_ble_eq_true rfl, Nat.le_of_ble_eq_true rfl⟩) hE (gSub hP [0, 1]) (gDSub hD [0, 1] rfl) 0 11 rfl rfl rfl rfl rfl hl.1 rfl (lv_room (Nat.le_of_ble_eq_true rfl)) dX7_isNumber_30 ⟨Nat.le_of_ble_eq_true rfl, Nat.le_of_ble_eq_true rfl⟩) hP hD hS hA [0, 1] rfl rfl rfl (fun r4 H locs hw hP hD hS => ?_)
          have hP : va_P g.1 vwCl (List.flatten [kMo g a_mo a_ms a_mwas a_mtried a_msaved a_mpast a_mfar a_mdrift a_mline a_mtape a_mcommands m_changes m_thrown m_errorAt m_failedAt m_answer m_isSaved m_lined m_taped m_here_5 m_commandMany, kAr g a_mtape 60 m_tape, kAr g a_mcommands 155 m_commands_5]) H := hP
          have hD : va_D A (List.flatten [kMo g a_mo a_ms a_mwas a_mtried a_msaved a_mpast a_mfar a_mdrift a_mline a_mtape a_mcommands m_changes m_thrown m_errorAt m_failedAt m_answer m_isSaved m_lined m_taped m_here_5 m_commandMany, kAr g a_mtape 60 m_tape, kAr g a_mcommands 155 m_commands_5]) := hD
          refine lv_iadd hx hb dX7_isNumber_33 ?_
          refine lv_bipush (v := 48) hx hb dX7_isNumber_34 (by decide) ?_
          refine lv_isub hx hb dX7_isNumber_36 ?_
          refine lv_istore_n (lv' := [(3, .int (((10 * x3_5) + r4) - 48)), (0, .ref (a_mo 0)), (1, .int x1), (2, .int x2), (4, .int x4_5)]) hx hb dX7_isNumber_37 rfl hl (by decide) rfl (fun ls hl => ?_)
          refine lv_aload_n hx hb dX7_isNumber_38 rfl (lv_at hl 1 rfl) ?_
          refine lv_dup hx hb dX7_isNumber_39 rfl ?_
          refine va_get (D := g.1) (ci := 11) (v := .int m_here_5) (C := RX7) (T := TX7) (N := 20) hx hb hts inX7_isNumber_X7 hown hE.1 hP 0 rfl rfl 18 (by decide) (gW hts 1 (.fieldLink RX7 192 "SnowDispatcherModel" "here" "I") rfl) (fun _ h9 => h9) rfl dX7_isNumber_40 ?_
          refine lv_iconst (v := 1) hx hb dX7_isNumber_43 (by decide) ?_
          refine lv_iadd hx hb dX7_isNumber_44 ?_
          refine va_put (D := g.1) (ci := 11) (v := .int (m_here_5 + 1)) (ty := .int) (C := RX7) (T := TX7) (N := 20) hx hb hts inX7_isNumber_X7 tyX7 tyX7_ok nmX7 hown hE.1 hP hD hS 0 rfl rfl 18 (by decide) (gW hts 1 (.fieldLink RX7 192 "SnowDispatcherModel" "here" "I") rfl) (fun _ h9 => h9) rfl (by decide +kernel) rfl rfl (Nat.le_of_ble_eq_true rfl) dX7_isNumber_45 (fun H locs hP hD hS => ?_)
          have hP : va_P g.1 vwCl (List.flatten [kMo g a_mo a_ms a_mwas a_mtried a_msaved a_mpast a_mfar a_mdrift a_mline a_mtape a_mcommands m_changes m_thrown m_errorAt m_failedAt m_answer m_isSaved m_lined m_taped (m_here_5 + 1) m_commandMany, kAr g a_mtape 60 m_tape, kAr g a_mcommands 155 m_commands_5]) H := hP
          have hD : va_D A (List.flatten [kMo g a_mo a_ms a_mwas a_mtried a_msaved a_mpast a_mfar a_mdrift a_mline a_mtape a_mcommands m_changes m_thrown m_errorAt m_failedAt m_answer m_isSaved m_lined m_taped (m_here_5 + 1) m_commandMany, kAr g a_mtape 60 m_tape, kAr g a_mcommands 155 m_commands_5]) := hD
          refine lv_iinc (v := (x4_5 + 1)) (lv' := [(4, .int (x4_5 + 1)), (3, .int (((10 * x3_5) + r4) - 48)), (0, .ref (a_mo 0)), (1, .int x1), (2, .int x2)]) hx hb dX7_isNumber_48 hl (k := 4) rfl rfl (by decide) rfl (fun ls hl => ?_)
          refine lv_goto (tgt := 5) hx hb dX7_isNumber_51 (by decide) ?_
          exact ih_5 m_commands_5 (((10 * x3_5) + r4) - 48) (x4_5 + 1) (m_here_5 + 1) _ _ _ hw hP hD hS (lv_sub hl [2, 3, 4, 1, 0] rfl)
  refine lv_iconst (v := 0) hx hb dX7_isNumber_0 (by decide) ?_
  refine lv_istore_n (lv' := [(3, .int 0), (0, .ref (a_mo 0)), (1, .int x1), (2, .int x2)]) hx hb dX7_isNumber_1 rfl hl (by decide) rfl (fun ls hl => ?_)
  refine lv_iconst (v := 0) hx hb dX7_isNumber_2 (by decide) ?_
  refine lv_istore (lv' := [(4, .int 0), (3, .int 0), (0, .ref (a_mo 0)), (1, .int x1), (2, .int x2)]) hx hb dX7_isNumber_3 hl (by decide) rfl (fun ls hl => ?_)
  obtain ⟨n, hw⟩ := hw
  exact L5 n m_commands 0 0 m_here _ _ _ hw hP hD hS (lv_sub hl [2, 3, 4, 1, 0] rfl)
abbrev rmX7_isClass : Room := { frames := 3, cells := 0, slots := 0, locals := 144 }
set_option maxRecDepth 20000 in
theorem inX7_isClass_X7 : ∀ w ∈ wsX70, w ∈ wsX7_isClass := by decide +kernel
set_option maxHeartbeats 4000000 in
set_option maxRecDepth 100000 in
theorem ctX7_isClass (l : Launch) (g : GG) (a_mo : Nat → Nat) (a_ms : Nat → Nat) (a_mwas : Nat → Nat) (a_mtried : Nat → Nat) (a_msaved : Nat → Nat) (a_mpast : Nat → Nat) (a_mfar : Nat → Nat) (a_mdrift : Nat → Nat) (a_mline : Nat → Nat) (a_mtape : Nat → Nat) (a_mcommands : Nat → Nat) (sz : Nat) (m_changes : Int32) (m_thrown : Int32) (m_errorAt : Int32) (m_failedAt : Int32) (m_answer : Int32) (m_isSaved : Int32) (m_lined : Int32) (m_taped : Int32) (m_here : Int32) (m_commandMany : Int32) (m_tape : Nat → Int32) (m_commands : Nat → Int32) (x1 : Int32) {post : Int32 → Int32 → (Nat → Int32) → Prop} (hw : wpX7_isClass x1 m_taped m_here m_tape m_commands post) :
    Met l yX7_isClass wsX7_isClass rmX7_isClass (gPc g sz (List.flatten [kMo g a_mo a_ms a_mwas a_mtried a_msaved a_mpast a_mfar a_mdrift a_mline a_mtape a_mcommands m_changes m_thrown m_errorAt m_failedAt m_answer m_isSaved m_lined m_taped m_here m_commandMany, kAr g a_mtape 60 m_tape, kAr g a_mcommands 155 m_commands]) [.ref (a_mo 0), .int x1]) (gQi2 post (fun u1 u2 => gB g (List.flatten [kMo g a_mo a_ms a_mwas a_mtried a_msaved a_mpast a_mfar a_mdrift a_mline a_mtape a_mcommands m_changes m_thrown m_errorAt m_failedAt m_answer m_isSaved m_lined m_taped m_here m_commandMany, kAr g a_mtape 60 m_tape, kAr g a_mcommands 155 m_commands]) sz (List.flatten [kMo g a_mo a_ms a_mwas a_mtried a_msaved a_mpast a_mfar a_mdrift a_mline a_mtape a_mcommands m_changes m_thrown m_errorAt m_failedAt m_answer m_isSaved m_lined m_taped u1 m_commandMany, kAr g a_mtape 60 m_tape, kAr g a_mcommands 155 u2])) (va_A (List.flatten [kMo g a_mo a_ms a_mwas a_mtried a_msaved a_mpast a_mfar a_mdrift a_mline a_mtape a_mcommands m_changes m_thrown m_errorAt m_failedAt m_answer m_isSaved m_lined m_taped m_here m_commandMany, kAr g a_mtape 60 m_tape, kAr g a_mcommands 155 m_commands]) sz)) 0 0 (va_A (List.flatten [kMo g a_mo a_ms a_mwas a_mtried a_msaved a_mpast a_mfar a_mdrift a_mline a_mtape a_mcommands m_changes m_thrown m_errorAt m_failedAt m_answer m_isSaved m_lined m_taped m_here m_commandMany, kAr g a_mtape 60 m_tape, kAr g a_mcommands 155 m_commands]) sz) := by
  refine gOf (cc := cX7_isClass) (maxL := 2) (ret := (some .boolean)) (by decide) rfl (Nat.le_of_ble_eq_true rfl) ?_
  intro p e s m below meth c ls Q A hQ hx hb hr hml hts hown hlocks hE hA0 hsz hP hD hA hS hl
  have hl : lv_has ls 2 [(0, .ref (a_mo 0)), (1, .int x1)] := hl
  refine lv_aload_n hx hb dX7_isClass_0 rfl (lv_at hl 0 rfl) ?_
  refine va_get (D := g.1) (ci := 11) (v := .ref (a_mcommands 0)) (C := RX7) (T := TX7) (N := 20) hx hb hts inX7_isClass_X7 hown hE.1 hP 0 rfl rfl 16 (by decide) (gW hts 1 (.fieldLink RX7 44 "SnowDispatcherModel" "commands" "[I") rfl) (fun _ h9 => h9) rfl dX7_isClass_1 ?_
  refine lv_iload_n hx hb dX7_isClass_4 rfl (lv_at hl 1 rfl) ?_
  refine lv_aload_n hx hb dX7_isClass_5 rfl (lv_at hl 0 rfl) ?_
  refine gCi0 (gRunV (As := []) (rest := [.int x1, .ref (a_mcommands 0)]) ⟨hx, hb, hml, hown, hts⟩ (ctX7_sign l g a_mo a_ms a_mwas a_mtried a_msaved a_mpast a_mfar a_mdrift a_mline a_mtape a_mcommands _ m_changes m_thrown m_errorAt m_failedAt m_answer m_isSaved m_lined m_taped m_here m_commandMany m_tape hw) (cwV 0 hts gX7_isClass_X7_sign rfl rfl rfl (by decide +kernel) ⟨Nat.le_of_ble_eq_true rfl, Nat.le_of_ble_eq_true rfl⟩) hE (gSub hP [0, 1]) (gDSub hD [0, 1] rfl) 0 11 rfl rfl rfl rfl rfl hl.1 rfl (lv_room (Nat.le_of_ble_eq_true rfl)) dX7_isClass_6 ⟨Nat.le_of_ble_eq_true rfl, Nat.le_of_ble_eq_true rfl⟩) hP hD hS hA [0, 1] rfl rfl rfl (fun r1 H locs hw hP hD hS => ?_)
  have hP : va_P g.1 vwCl (List.flatten [kMo g a_mo a_ms a_mwas a_mtried a_msaved a_mpast a_mfar a_mdrift a_mline a_mtape a_mcommands m_changes m_thrown m_errorAt m_failedAt m_answer m_isSaved m_lined m_taped m_here m_commandMany, kAr g a_mtape 60 m_tape, kAr g a_mcommands 155 m_commands]) H := hP
  have hD : va_D A (List.flatten [kMo g a_mo a_ms a_mwas a_mtried a_msaved a_mpast a_mfar a_mdrift a_mline a_mtape a_mcommands m_changes m_thrown m_errorAt m_failedAt m_answer m_isSaved m_lined m_taped m_here m_commandMany, kAr g a_mtape 60 m_tape, kAr g a_mcommands 155 m_commands]) := hD
  have h2 := hw.1
  have hw := hw.2
  refine va_iast hx hb hE.1 hP hD hS 2 0 rfl rfl h2 dX7_isClass_9 (fun H locs hP hD hS => ?_)
  have hP : va_P g.1 vwCl (List.flatten [kMo g a_mo a_ms a_mwas a_mtried a_msaved a_mpast a_mfar a_mdrift a_mline a_mtape a_mcommands m_changes m_thrown m_errorAt m_failedAt m_answer m_isSaved m_lined m_taped m_here m_commandMany, kAr g a_mtape 60 m_tape, kAr g a_mcommands 155 (upd m_commands x1.toNatClampNeg r1)]) H := hP
  have hD : va_D A (List.flatten [kMo g a_mo a_ms a_mwas a_mtried a_msaved a_mpast a_mfar a_mdrift a_mline a_mtape a_mcommands m_changes m_thrown m_errorAt m_failedAt m_answer m_isSaved m_lined m_taped m_here m_commandMany, kAr g a_mtape 60 m_tape, kAr g a_mcommands 155 (upd m_commands x1.toNatClampNeg r1)]) := hD
  refine lv_aload_n hx hb dX7_isClass_10 rfl (lv_at hl 0 rfl) ?_
  refine lv_bipush (v := 97) hx hb dX7_isClass_11 (by decide) ?_
  refine gCi1 (gRunV (As := [.int 97]) (rest := []) ⟨hx, hb, hml, hown, hts⟩ (ctX7_isSign l g a_mo a_ms a_mwas a_mtried a_msaved a_mpast a_mfar a_mdrift a_mline a_mtape a_mcommands _ m_changes m_thrown m_errorAt m_failedAt m_answer m_isSaved m_lined m_taped m_here m_commandMany m_tape 97 hw) (cwV 1 hts gX7_isClass_X7_isSign rfl rfl rfl (by decide +kernel) ⟨Nat.le_of_ble_eq_true rfl, Nat.le_of_ble_eq_true rfl⟩) hE (gSub hP [0, 1]) (gDSub hD [0, 1] rfl) 0 11 rfl rfl rfl rfl rfl hl.1 rfl (lv_room (Nat.le_of_ble_eq_true rfl)) dX7_isClass_13 ⟨Nat.le_of_ble_eq_true rfl, Nat.le_of_ble_eq_true rfl⟩) hP hD hS hA [0, 1] rfl (fun _ => rfl) rfl (fun r3 m_here_v3 H locs hw hP hD hS => ?_)
  have hP : va_P g.1 vwCl (List.flatten [kMo g a_mo a_ms a_mwas a_mtried a_msaved a_mpast a_mfar a_mdrift a_mline a_mtape a_mcommands m_changes m_thrown m_errorAt m_failedAt m_answer m_isSaved m_lined m_taped m_here_v3 m_commandMany, kAr g a_mtape 60 m_tape, kAr g a_mcommands 155 (upd m_commands x1.toNatClampNeg r1)]) H := hP
  have hD : va_D A (List.flatten [kMo g a_mo a_ms a_mwas a_mtried a_msaved a_mpast a_mfar a_mdrift a_mline a_mtape a_mcommands m_changes m_thrown m_errorAt m_failedAt m_answer m_isSaved m_lined m_taped m_here_v3 m_commandMany, kAr g a_mtape 60 m_tape, kAr g a_mcommands 155 (upd m_commands x1.toNatClampNeg r1)]) := hD
  refine lv_if_ne (tgt := 37) hx hb dX7_isClass_16 (by decide) (fun c_16 => ?_) (fun c_16 => ?_)
  · have hw := hw.1 c_16
    refine lv_iconst (v := 1) hx hb dX7_isClass_37 (by decide) ?_
    refine lv_goto (tgt := 42) hx hb dX7_isClass_38 (by decide) ?_
    subst hQ
    exact W.zret (ty := .boolean) hx hb hr (by decide) (gRi2 (c1 := m_here_v3) (c2 := (upd m_commands x1.toNatClampNeg r1)) (wf := _) hA0 hsz hw hP hD hS) hS.2.2 dX7_isClass_42
  · have hw := hw.2 c_16
    refine lv_aload_n hx hb dX7_isClass_19 rfl (lv_at hl 0 rfl) ?_
    refine lv_bipush (v := 98) hx hb dX7_isClass_20 (by decide) ?_
    refine gCi1 (gRunV (As := [.int 98]) (rest := []) ⟨hx, hb, hml, hown, hts⟩ (ctX7_isSign l g a_mo a_ms a_mwas a_mtried a_msaved a_mpast a_mfar a_mdrift a_mline a_mtape a_mcommands _ m_changes m_thrown m_errorAt m_failedAt m_answer m_isSaved m_lined m_taped m_here_v3 m_commandMany m_tape 98 hw) (cwV 1 hts gX7_isClass_X7_isSign rfl rfl rfl (by decide +kernel) ⟨Nat.le_of_ble_eq_true rfl, Nat.le_of_ble_eq_true rfl⟩) hE (gSub hP [0, 1]) (gDSub hD [0, 1] rfl) 0 11 rfl rfl rfl rfl rfl hl.1 rfl (lv_room (Nat.le_of_ble_eq_true rfl)) dX7_isClass_22 ⟨Nat.le_of_ble_eq_true rfl, Nat.le_of_ble_eq_true rfl⟩) hP hD hS hA [0, 1] rfl (fun _ => rfl) rfl (fun r4 m_here_v4 H locs hw hP hD hS => ?_)
    have hP : va_P g.1 vwCl (List.flatten [kMo g a_mo a_ms a_mwas a_mtried a_msaved a_mpast a_mfar a_mdrift a_mline a_mtape a_mcommands m_changes m_thrown m_errorAt m_failedAt m_answer m_isSaved m_lined m_taped m_here_v4 m_commandMany, kAr g a_mtape 60 m_tape, kAr g a_mcommands 155 (upd m_commands x1.toNatClampNeg r1)]) H := hP
    have hD : va_D A (List.flatten [kMo g a_mo a_ms a_mwas a_mtried a_msaved a_mpast a_mfar a_mdrift a_mline a_mtape a_mcommands m_changes m_thrown m_errorAt m_failedAt m_answer m_isSaved m_lined m_taped m_here_v4 m_commandMany, kAr g a_mtape 60 m_tape, kAr g a_mcommands 155 (upd m_commands x1.toNatClampNeg r1)]) := hD
    refine lv_if_ne (tgt := 37) hx hb dX7_isClass_25 (by decide) (fun c_25 => ?_) (fun c_25 => ?_)
    · have hw := hw.1 c_25
      refine lv_iconst (v := 1) hx hb dX7_isClass_37 (by decide) ?_
      refine lv_goto (tgt := 42) hx hb dX7_isClass_38 (by decide) ?_
      subst hQ
      exact W.zret (ty := .boolean) hx hb hr (by decide) (gRi2 (c1 := m_here_v4) (c2 := (upd m_commands x1.toNatClampNeg r1)) (wf := _) hA0 hsz hw hP hD hS) hS.2.2 dX7_isClass_42
    · have hw := hw.2 c_25
      refine lv_aload_n hx hb dX7_isClass_28 rfl (lv_at hl 0 rfl) ?_
      refine lv_bipush (v := 99) hx hb dX7_isClass_29 (by decide) ?_
      refine gCi1 (gRunV (As := [.int 99]) (rest := []) ⟨hx, hb, hml, hown, hts⟩ (ctX7_isSign l g a_mo a_ms a_mwas a_mtried a_msaved a_mpast a_mfar a_mdrift a_mline a_mtape a_mcommands _ m_changes m_thrown m_errorAt m_failedAt m_answer m_isSaved m_lined m_taped m_here_v4 m_commandMany m_tape 99 hw) (cwV 1 hts gX7_isClass_X7_isSign rfl rfl rfl (by decide +kernel) ⟨Nat.le_of_ble_eq_true rfl, Nat.le_of_ble_eq_true rfl⟩) hE (gSub hP [0, 1]) (gDSub hD [0, 1] rfl) 0 11 rfl rfl rfl rfl rfl hl.1 rfl (lv_room (Nat.le_of_ble_eq_true rfl)) dX7_isClass_31 ⟨Nat.le_of_ble_eq_true rfl, Nat.le_of_ble_eq_true rfl⟩) hP hD hS hA [0, 1] rfl (fun _ => rfl) rfl (fun r5 m_here_v5 H locs hw hP hD hS => ?_)
      have hP : va_P g.1 vwCl (List.flatten [kMo g a_mo a_ms a_mwas a_mtried a_msaved a_mpast a_mfar a_mdrift a_mline a_mtape a_mcommands m_changes m_thrown m_errorAt m_failedAt m_answer m_isSaved m_lined m_taped m_here_v5 m_commandMany, kAr g a_mtape 60 m_tape, kAr g a_mcommands 155 (upd m_commands x1.toNatClampNeg r1)]) H := hP
      have hD : va_D A (List.flatten [kMo g a_mo a_ms a_mwas a_mtried a_msaved a_mpast a_mfar a_mdrift a_mline a_mtape a_mcommands m_changes m_thrown m_errorAt m_failedAt m_answer m_isSaved m_lined m_taped m_here_v5 m_commandMany, kAr g a_mtape 60 m_tape, kAr g a_mcommands 155 (upd m_commands x1.toNatClampNeg r1)]) := hD
      refine lv_if_eq (tgt := 41) hx hb dX7_isClass_34 (by decide) (fun c_34 => ?_) (fun c_34 => ?_)
      · have hw := hw.1 c_34
        refine lv_iconst (v := 0) hx hb dX7_isClass_41 (by decide) ?_
        subst hQ
        exact W.zret (ty := .boolean) hx hb hr (by decide) (gRi2 (c1 := m_here_v5) (c2 := (upd m_commands x1.toNatClampNeg r1)) (wf := _) hA0 hsz hw hP hD hS) hS.2.2 dX7_isClass_42
      · have hw := hw.2 c_34
        refine lv_iconst (v := 1) hx hb dX7_isClass_37 (by decide) ?_
        refine lv_goto (tgt := 42) hx hb dX7_isClass_38 (by decide) ?_
        subst hQ
        exact W.zret (ty := .boolean) hx hb hr (by decide) (gRi2 (c1 := m_here_v5) (c2 := (upd m_commands x1.toNatClampNeg r1)) (wf := _) hA0 hsz hw hP hD hS) hS.2.2 dX7_isClass_42
abbrev rmX7_isFirst : Room := { frames := 1, cells := 0, slots := 0, locals := 100 }
set_option maxHeartbeats 4000000 in
set_option maxRecDepth 100000 in
theorem ctX7_isFirst (l : Launch) (g : GG) (sz : Nat) (x0 : Int32) {post : Int32 → Prop} (hw : wpX7_isFirst x0 post) :
    Met l yX7_isFirst wsX7_isFirst rmX7_isFirst (gPc g sz (List.flatten []) [.int x0]) (gQi0 post (gB g (List.flatten []) sz (List.flatten [])) (va_A (List.flatten []) sz)) 0 0 (va_A (List.flatten []) sz) := by
  refine gOf (cc := cX7_isFirst) (maxL := 1) (ret := (some .boolean)) (by decide) rfl (Nat.le_of_ble_eq_true rfl) ?_
  intro p e s m below meth c ls Q A hQ hx hb hr hml hts hown hlocks hE hA0 hsz hP hD hA hS hl
  have hl : lv_has ls 1 [(0, .int x0)] := hl
  refine lv_iload_n hx hb dX7_isFirst_0 rfl (lv_at hl 0 rfl) ?_
  refine lv_bipush (v := 115) hx hb dX7_isFirst_1 (by decide) ?_
  refine lv_icmp_eq (tgt := 36) hx hb dX7_isFirst_3 (by decide) (fun c_3 => ?_) (fun c_3 => ?_)
  · have hw := hw.1 c_3
    refine lv_iconst (v := 1) hx hb dX7_isFirst_36 (by decide) ?_
    refine lv_goto (tgt := 41) hx hb dX7_isFirst_37 (by decide) ?_
    subst hQ
    exact W.zret (ty := .boolean) hx hb hr (by decide) (gRi0 (wf := _) hA0 hsz hw hP hD hS) hS.2.2 dX7_isFirst_41
  · have hw := hw.2 c_3
    refine lv_iload_n hx hb dX7_isFirst_6 rfl (lv_at hl 0 rfl) ?_
    refine lv_bipush (v := 119) hx hb dX7_isFirst_7 (by decide) ?_
    refine lv_icmp_eq (tgt := 36) hx hb dX7_isFirst_9 (by decide) (fun c_9 => ?_) (fun c_9 => ?_)
    · have hw := hw.1 c_9
      refine lv_iconst (v := 1) hx hb dX7_isFirst_36 (by decide) ?_
      refine lv_goto (tgt := 41) hx hb dX7_isFirst_37 (by decide) ?_
      subst hQ
      exact W.zret (ty := .boolean) hx hb hr (by decide) (gRi0 (wf := _) hA0 hsz hw hP hD hS) hS.2.2 dX7_isFirst_41
    · have hw := hw.2 c_9
      refine lv_iload_n hx hb dX7_isFirst_12 rfl (lv_at hl 0 rfl) ?_
      refine lv_bipush (v := 112) hx hb dX7_isFirst_13 (by decide) ?_
      refine lv_icmp_eq (tgt := 36) hx hb dX7_isFirst_15 (by decide) (fun c_15 => ?_) (fun c_15 => ?_)
      · have hw := hw.1 c_15
        refine lv_iconst (v := 1) hx hb dX7_isFirst_36 (by decide) ?_
        refine lv_goto (tgt := 41) hx hb dX7_isFirst_37 (by decide) ?_
        subst hQ
        exact W.zret (ty := .boolean) hx hb hr (by decide) (gRi0 (wf := _) hA0 hsz hw hP hD hS) hS.2.2 dX7_isFirst_41
      · have hw := hw.2 c_15
        refine lv_iload_n hx hb dX7_isFirst_18 rfl (lv_at hl 0 rfl) ?_
        refine lv_bipush (v := 111) hx hb dX7_isFirst_19 (by decide) ?_
        refine lv_icmp_eq (tgt := 36) hx hb dX7_isFirst_21 (by decide) (fun c_21 => ?_) (fun c_21 => ?_)
        · have hw := hw.1 c_21
          refine lv_iconst (v := 1) hx hb dX7_isFirst_36 (by decide) ?_
          refine lv_goto (tgt := 41) hx hb dX7_isFirst_37 (by decide) ?_
          subst hQ
          exact W.zret (ty := .boolean) hx hb hr (by decide) (gRi0 (wf := _) hA0 hsz hw hP hD hS) hS.2.2 dX7_isFirst_41
        · have hw := hw.2 c_21
          refine lv_iload_n hx hb dX7_isFirst_24 rfl (lv_at hl 0 rfl) ?_
          refine lv_bipush (v := 99) hx hb dX7_isFirst_25 (by decide) ?_
          refine lv_icmp_eq (tgt := 36) hx hb dX7_isFirst_27 (by decide) (fun c_27 => ?_) (fun c_27 => ?_)
          · have hw := hw.1 c_27
            refine lv_iconst (v := 1) hx hb dX7_isFirst_36 (by decide) ?_
            refine lv_goto (tgt := 41) hx hb dX7_isFirst_37 (by decide) ?_
            subst hQ
            exact W.zret (ty := .boolean) hx hb hr (by decide) (gRi0 (wf := _) hA0 hsz hw hP hD hS) hS.2.2 dX7_isFirst_41
          · have hw := hw.2 c_27
            refine lv_iload_n hx hb dX7_isFirst_30 rfl (lv_at hl 0 rfl) ?_
            refine lv_bipush (v := 108) hx hb dX7_isFirst_31 (by decide) ?_
            refine lv_icmp_ne (tgt := 40) hx hb dX7_isFirst_33 (by decide) (fun c_33 => ?_) (fun c_33 => ?_)
            · have hw := hw.1 c_33
              refine lv_iconst (v := 0) hx hb dX7_isFirst_40 (by decide) ?_
              subst hQ
              exact W.zret (ty := .boolean) hx hb hr (by decide) (gRi0 (wf := _) hA0 hsz hw hP hD hS) hS.2.2 dX7_isFirst_41
            · have hw := hw.2 c_33
              refine lv_iconst (v := 1) hx hb dX7_isFirst_36 (by decide) ?_
              refine lv_goto (tgt := 41) hx hb dX7_isFirst_37 (by decide) ?_
              subst hQ
              exact W.zret (ty := .boolean) hx hb hr (by decide) (gRi0 (wf := _) hA0 hsz hw hP hD hS) hS.2.2 dX7_isFirst_41
abbrev rmX7_does : Room := { frames := 8, cells := 0, slots := 0, locals := 270 }
set_option maxRecDepth 20000 in
theorem inX7_does_X7 : ∀ w ∈ wsX70, w ∈ wsX7_does := by decide +kernel
set_option maxHeartbeats 4000000 in
set_option maxRecDepth 100000 in
theorem ctX7_does (l : Launch) (g : GG) (a_mo : Nat → Nat) (a_ms : Nat → Nat) (a_mwas : Nat → Nat) (a_mtried : Nat → Nat) (a_msaved : Nat → Nat) (a_mpast : Nat → Nat) (a_mfar : Nat → Nat) (a_mdrift : Nat → Nat) (a_mline : Nat → Nat) (a_mtape : Nat → Nat) (a_mcommands : Nat → Nat) (sz : Nat) (m_changes : Int32) (m_thrown : Int32) (m_errorAt : Int32) (m_failedAt : Int32) (m_answer : Int32) (m_isSaved : Int32) (m_lined : Int32) (m_taped : Int32) (m_here : Int32) (m_commandMany : Int32) (m_s : Nat → Int32) (m_far : Nat → Int32) (m_drift : Nat → Int32) (m_commands : Nat → Int32) (x1 : Int32) {post : Int32 → Int32 → Int32 → (Nat → Int32) → (Nat → Int32) → (Nat → Int32) → Prop} (hw : wpX7_does x1 m_thrown m_answer m_s m_far m_drift m_commands post) :
    Met l yX7_does wsX7_does rmX7_does (gPc g sz (List.flatten [kMo g a_mo a_ms a_mwas a_mtried a_msaved a_mpast a_mfar a_mdrift a_mline a_mtape a_mcommands m_changes m_thrown m_errorAt m_failedAt m_answer m_isSaved m_lined m_taped m_here m_commandMany, kAr g a_ms 130 m_s, kAr g a_mfar 8 m_far, kAr g a_mdrift 12 m_drift, kAr g a_mcommands 155 m_commands]) [.ref (a_mo 0), .int x1]) (gQi5 post (fun u1 u2 u3 u4 u5 => gB g (List.flatten [kMo g a_mo a_ms a_mwas a_mtried a_msaved a_mpast a_mfar a_mdrift a_mline a_mtape a_mcommands m_changes m_thrown m_errorAt m_failedAt m_answer m_isSaved m_lined m_taped m_here m_commandMany, kAr g a_ms 130 m_s, kAr g a_mfar 8 m_far, kAr g a_mdrift 12 m_drift, kAr g a_mcommands 155 m_commands]) sz (List.flatten [kMo g a_mo a_ms a_mwas a_mtried a_msaved a_mpast a_mfar a_mdrift a_mline a_mtape a_mcommands m_changes u1 m_errorAt m_failedAt u2 m_isSaved m_lined m_taped m_here m_commandMany, kAr g a_ms 130 u3, kAr g a_mfar 8 u4, kAr g a_mdrift 12 u5, kAr g a_mcommands 155 m_commands])) (va_A (List.flatten [kMo g a_mo a_ms a_mwas a_mtried a_msaved a_mpast a_mfar a_mdrift a_mline a_mtape a_mcommands m_changes m_thrown m_errorAt m_failedAt m_answer m_isSaved m_lined m_taped m_here m_commandMany, kAr g a_ms 130 m_s, kAr g a_mfar 8 m_far, kAr g a_mdrift 12 m_drift, kAr g a_mcommands 155 m_commands]) sz)) 0 0 (va_A (List.flatten [kMo g a_mo a_ms a_mwas a_mtried a_msaved a_mpast a_mfar a_mdrift a_mline a_mtape a_mcommands m_changes m_thrown m_errorAt m_failedAt m_answer m_isSaved m_lined m_taped m_here m_commandMany, kAr g a_ms 130 m_s, kAr g a_mfar 8 m_far, kAr g a_mdrift 12 m_drift, kAr g a_mcommands 155 m_commands]) sz) := by
  refine gOf (cc := cX7_does) (maxL := 4) (ret := (some .int)) (by decide) rfl (Nat.le_of_ble_eq_true rfl) ?_
  intro p e s m below meth c ls Q A hQ hx hb hr hml hts hown hlocks hE hA0 hsz hP hD hA hS hl
  have hl : lv_has ls 4 [(0, .ref (a_mo 0)), (1, .int x1)] := hl
  refine lv_aload_n hx hb dX7_does_0 rfl (lv_at hl 0 rfl) ?_
  refine va_get (D := g.1) (ci := 11) (v := .ref (a_mcommands 0)) (C := RX7) (T := TX7) (N := 20) hx hb hts inX7_does_X7 hown hE.1 hP 0 rfl rfl 16 (by decide) (gW hts 1 (.fieldLink RX7 44 "SnowDispatcherModel" "commands" "[I") rfl) (fun _ h9 => h9) rfl dX7_does_1 ?_
  refine lv_iload_n hx hb dX7_does_4 rfl (lv_at hl 1 rfl) ?_
  refine lv_iconst (v := 1) hx hb dX7_does_5 (by decide) ?_
  refine lv_iadd hx hb dX7_does_6 ?_
  have h1 := hw.1
  have hw := hw.2
  refine va_iald hx hb hE.1 hP 4 0 rfl rfl h1 dX7_does_7 ?_
  refine lv_istore_n (lv' := [(2, .int (m_commands (x1 + 1).toNatClampNeg)), (0, .ref (a_mo 0)), (1, .int x1)]) hx hb dX7_does_8 rfl hl (by decide) rfl (fun ls hl => ?_)
  refine lv_aload_n hx hb dX7_does_9 rfl (lv_at hl 1 rfl) ?_
  refine va_get (D := g.1) (ci := 11) (v := .ref (a_mcommands 0)) (C := RX7) (T := TX7) (N := 20) hx hb hts inX7_does_X7 hown hE.1 hP 0 rfl rfl 16 (by decide) (gW hts 1 (.fieldLink RX7 44 "SnowDispatcherModel" "commands" "[I") rfl) (fun _ h9 => h9) rfl dX7_does_10 ?_
  refine lv_iload_n hx hb dX7_does_13 rfl (lv_at hl 2 rfl) ?_
  refine lv_iconst (v := 2) hx hb dX7_does_14 (by decide) ?_
  refine lv_iadd hx hb dX7_does_15 ?_
  have h2 := hw.1
  have hw := hw.2
  refine va_iald hx hb hE.1 hP 4 0 rfl rfl h2 dX7_does_16 ?_
  refine lv_istore_n (lv' := [(3, .int (m_commands (x1 + 2).toNatClampNeg)), (2, .int (m_commands (x1 + 1).toNatClampNeg)), (0, .ref (a_mo 0)), (1, .int x1)]) hx hb dX7_does_17 rfl hl (by decide) rfl (fun ls hl => ?_)
  refine lv_aload_n hx hb dX7_does_18 rfl (lv_at hl 2 rfl) ?_
  refine va_get (D := g.1) (ci := 11) (v := .ref (a_mcommands 0)) (C := RX7) (T := TX7) (N := 20) hx hb hts inX7_does_X7 hown hE.1 hP 0 rfl rfl 16 (by decide) (gW hts 1 (.fieldLink RX7 44 "SnowDispatcherModel" "commands" "[I") rfl) (fun _ h9 => h9) rfl dX7_does_19 ?_
  refine lv_iload_n hx hb dX7_does_22 rfl (lv_at hl 3 rfl) ?_
  have h3 := hw.1
  have hw := hw.2
  refine va_iald hx hb hE.1 hP 4 0 rfl rfl h3 dX7_does_23 ?_
  by_cases c_24_0 : (m_commands x1.toNatClampNeg) = 83
  · have hw := hw.1 c_24_0
    refine lv_lookup (off := 99) (tgt := 123) hx hb dX7_does_24 rfl (gLk c_24_0 rfl) (by decide) ?_
    refine lv_aload_n hx hb dX7_does_123 rfl (lv_at hl 2 rfl) ?_
    refine lv_iload_n hx hb dX7_does_124 rfl (lv_at hl 1 rfl) ?_
    refine gCi2 (gRunV (As := [.int (m_commands (x1 + 1).toNatClampNeg)]) (rest := []) ⟨hx, hb, hml, hown, hts⟩ (ctX7_salts l g a_mo a_ms a_mwas a_mtried a_msaved a_mpast a_mfar a_mdrift a_mline a_mtape a_mcommands _ m_changes m_thrown m_errorAt m_failedAt m_answer m_isSaved m_lined m_taped m_here m_commandMany m_s (m_commands (x1 + 1).toNatClampNeg) hw) (cwV 1 hts gX7_does_X7_salts rfl rfl rfl (by decide +kernel) ⟨Nat.le_of_ble_eq_true rfl, Nat.le_of_ble_eq_true rfl⟩) hE (gSub hP [0, 1]) (gDSub hD [0, 1] rfl) 0 11 rfl rfl rfl rfl rfl hl.1 rfl (lv_room (Nat.le_of_ble_eq_true rfl)) dX7_does_125 ⟨Nat.le_of_ble_eq_true rfl, Nat.le_of_ble_eq_true rfl⟩) hP hD hS hA [0, 1] rfl (fun _ _ => rfl) rfl (fun r4 m_thrown_v4 m_s_v4 H locs hw hP hD hS => ?_)
    have hP : va_P g.1 vwCl (List.flatten [kMo g a_mo a_ms a_mwas a_mtried a_msaved a_mpast a_mfar a_mdrift a_mline a_mtape a_mcommands m_changes m_thrown_v4 m_errorAt m_failedAt m_answer m_isSaved m_lined m_taped m_here m_commandMany, kAr g a_ms 130 m_s_v4, kAr g a_mfar 8 m_far, kAr g a_mdrift 12 m_drift, kAr g a_mcommands 155 m_commands]) H := hP
    have hD : va_D A (List.flatten [kMo g a_mo a_ms a_mwas a_mtried a_msaved a_mpast a_mfar a_mdrift a_mline a_mtape a_mcommands m_changes m_thrown_v4 m_errorAt m_failedAt m_answer m_isSaved m_lined m_taped m_here m_commandMany, kAr g a_ms 130 m_s_v4, kAr g a_mfar 8 m_far, kAr g a_mdrift 12 m_drift, kAr g a_mcommands 155 m_commands]) := hD
    subst hQ
    exact W.iret hx hb hr (gRi5 (c1 := m_thrown_v4) (c2 := m_answer) (c3 := m_s_v4) (c4 := m_far) (c5 := m_drift) (wf := _) hA0 hsz hw hP hD hS) hS.2.2 dX7_does_128
  · have hw := hw.2 c_24_0
    by_cases c_24_1 : (m_commands x1.toNatClampNeg) = 99
    · have hw := hw.1 c_24_1
      refine lv_lookup (off := 138) (tgt := 162) hx hb dX7_does_24 rfl (gLk c_24_1 rfl) (by decide) ?_
      refine lv_aload_n hx hb dX7_does_162 rfl (lv_at hl 2 rfl) ?_
      refine lv_iload_n hx hb dX7_does_163 rfl (lv_at hl 1 rfl) ?_
      refine gCi2 (gRunV (As := [.int (m_commands (x1 + 1).toNatClampNeg)]) (rest := []) ⟨hx, hb, hml, hown, hts⟩ (ctX7_cancels l g a_mo a_ms a_mwas a_mtried a_msaved a_mpast a_mfar a_mdrift a_mline a_mtape a_mcommands _ m_changes m_thrown m_errorAt m_failedAt m_answer m_isSaved m_lined m_taped m_here m_commandMany m_s (m_commands (x1 + 1).toNatClampNeg) hw) (cwV 1 hts gX7_does_X7_cancels rfl rfl rfl (by decide +kernel) ⟨Nat.le_of_ble_eq_true rfl, Nat.le_of_ble_eq_true rfl⟩) hE (gSub hP [0, 1]) (gDSub hD [0, 1] rfl) 0 11 rfl rfl rfl rfl rfl hl.1 rfl (lv_room (Nat.le_of_ble_eq_true rfl)) dX7_does_164 ⟨Nat.le_of_ble_eq_true rfl, Nat.le_of_ble_eq_true rfl⟩) hP hD hS hA [0, 1] rfl (fun _ _ => rfl) rfl (fun r5 m_thrown_v5 m_s_v5 H locs hw hP hD hS => ?_)
      have hP : va_P g.1 vwCl (List.flatten [kMo g a_mo a_ms a_mwas a_mtried a_msaved a_mpast a_mfar a_mdrift a_mline a_mtape a_mcommands m_changes m_thrown_v5 m_errorAt m_failedAt m_answer m_isSaved m_lined m_taped m_here m_commandMany, kAr g a_ms 130 m_s_v5, kAr g a_mfar 8 m_far, kAr g a_mdrift 12 m_drift, kAr g a_mcommands 155 m_commands]) H := hP
      have hD : va_D A (List.flatten [kMo g a_mo a_ms a_mwas a_mtried a_msaved a_mpast a_mfar a_mdrift a_mline a_mtape a_mcommands m_changes m_thrown_v5 m_errorAt m_failedAt m_answer m_isSaved m_lined m_taped m_here m_commandMany, kAr g a_ms 130 m_s_v5, kAr g a_mfar 8 m_far, kAr g a_mdrift 12 m_drift, kAr g a_mcommands 155 m_commands]) := hD
      subst hQ
      exact W.iret hx hb hr (gRi5 (c1 := m_thrown_v5) (c2 := m_answer) (c3 := m_s_v5) (c4 := m_far) (c5 := m_drift) (wf := _) hA0 hsz hw hP hD hS) hS.2.2 dX7_does_167
    · have hw := hw.2 c_24_1
      by_cases c_24_2 : (m_commands x1.toNatClampNeg) = 110
      · have hw := hw.1 c_24_2
        refine lv_lookup (off := 105) (tgt := 129) hx hb dX7_does_24 rfl (gLk c_24_2 rfl) (by decide) ?_
        refine lv_aload_n hx hb dX7_does_129 rfl (lv_at hl 2 rfl) ?_
        refine lv_iconst (v := 4) hx hb dX7_does_130 (by decide) ?_
        refine lv_iload_n hx hb dX7_does_131 rfl (lv_at hl 1 rfl) ?_
        refine gCi2 (gRunV (As := [.int 4, .int (m_commands (x1 + 1).toNatClampNeg)]) (rest := []) ⟨hx, hb, hml, hown, hts⟩ (ctX7_tells l g a_mo a_ms a_mwas a_mtried a_msaved a_mpast a_mfar a_mdrift a_mline a_mtape a_mcommands _ m_changes m_thrown m_errorAt m_failedAt m_answer m_isSaved m_lined m_taped m_here m_commandMany m_s 4 (m_commands (x1 + 1).toNatClampNeg) hw) (cwV 2 hts gX7_does_X7_tells rfl rfl rfl (by decide +kernel) ⟨Nat.le_of_ble_eq_true rfl, Nat.le_of_ble_eq_true rfl⟩) hE (gSub hP [0, 1]) (gDSub hD [0, 1] rfl) 0 11 rfl rfl rfl rfl rfl hl.1 rfl (lv_room (Nat.le_of_ble_eq_true rfl)) dX7_does_132 ⟨Nat.le_of_ble_eq_true rfl, Nat.le_of_ble_eq_true rfl⟩) hP hD hS hA [0, 1] rfl (fun _ _ => rfl) rfl (fun r6 m_thrown_v6 m_s_v6 H locs hw hP hD hS => ?_)
        have hP : va_P g.1 vwCl (List.flatten [kMo g a_mo a_ms a_mwas a_mtried a_msaved a_mpast a_mfar a_mdrift a_mline a_mtape a_mcommands m_changes m_thrown_v6 m_errorAt m_failedAt m_answer m_isSaved m_lined m_taped m_here m_commandMany, kAr g a_ms 130 m_s_v6, kAr g a_mfar 8 m_far, kAr g a_mdrift 12 m_drift, kAr g a_mcommands 155 m_commands]) H := hP
        have hD : va_D A (List.flatten [kMo g a_mo a_ms a_mwas a_mtried a_msaved a_mpast a_mfar a_mdrift a_mline a_mtape a_mcommands m_changes m_thrown_v6 m_errorAt m_failedAt m_answer m_isSaved m_lined m_taped m_here m_commandMany, kAr g a_ms 130 m_s_v6, kAr g a_mfar 8 m_far, kAr g a_mdrift 12 m_drift, kAr g a_mcommands 155 m_commands]) := hD
        subst hQ
        exact W.iret hx hb hr (gRi5 (c1 := m_thrown_v6) (c2 := m_answer) (c3 := m_s_v6) (c4 := m_far) (c5 := m_drift) (wf := _) hA0 hsz hw hP hD hS) hS.2.2 dX7_does_135
      · have hw := hw.2 c_24_2
        by_cases c_24_3 : (m_commands x1.toNatClampNeg) = 111
        · have hw := hw.1 c_24_3
          refine lv_lookup (off := 131) (tgt := 155) hx hb dX7_does_24 rfl (gLk c_24_3 rfl) (by decide) ?_
          refine lv_aload_n hx hb dX7_does_155 rfl (lv_at hl 2 rfl) ?_
          refine lv_iload_n hx hb dX7_does_156 rfl (lv_at hl 1 rfl) ?_
          refine lv_iload_n hx hb dX7_does_157 rfl (lv_at hl 0 rfl) ?_
          refine gCi2 (gRunV (As := [.int (m_commands (x1 + 1).toNatClampNeg), .int (m_commands (x1 + 2).toNatClampNeg)]) (rest := []) ⟨hx, hb, hml, hown, hts⟩ (ctX7_orders l g a_mo a_ms a_mwas a_mtried a_msaved a_mpast a_mfar a_mdrift a_mline a_mtape a_mcommands _ m_changes m_thrown m_errorAt m_failedAt m_answer m_isSaved m_lined m_taped m_here m_commandMany m_s (m_commands (x1 + 1).toNatClampNeg) (m_commands (x1 + 2).toNatClampNeg) hw) (cwV 2 hts gX7_does_X7_orders rfl rfl rfl (by decide +kernel) ⟨Nat.le_of_ble_eq_true rfl, Nat.le_of_ble_eq_true rfl⟩) hE (gSub hP [0, 1]) (gDSub hD [0, 1] rfl) 0 11 rfl rfl rfl rfl rfl hl.1 rfl (lv_room (Nat.le_of_ble_eq_true rfl)) dX7_does_158 ⟨Nat.le_of_ble_eq_true rfl, Nat.le_of_ble_eq_true rfl⟩) hP hD hS hA [0, 1] rfl (fun _ _ => rfl) rfl (fun r7 m_thrown_v7 m_s_v7 H locs hw hP hD hS => ?_)
          have hP : va_P g.1 vwCl (List.flatten [kMo g a_mo a_ms a_mwas a_mtried a_msaved a_mpast a_mfar a_mdrift a_mline a_mtape a_mcommands m_changes m_thrown_v7 m_errorAt m_failedAt m_answer m_isSaved m_lined m_taped m_here m_commandMany, kAr g a_ms 130 m_s_v7, kAr g a_mfar 8 m_far, kAr g a_mdrift 12 m_drift, kAr g a_mcommands 155 m_commands]) H := hP
          have hD : va_D A (List.flatten [kMo g a_mo a_ms a_mwas a_mtried a_msaved a_mpast a_mfar a_mdrift a_mline a_mtape a_mcommands m_changes m_thrown_v7 m_errorAt m_failedAt m_answer m_isSaved m_lined m_taped m_here m_commandMany, kAr g a_ms 130 m_s_v7, kAr g a_mfar 8 m_far, kAr g a_mdrift 12 m_drift, kAr g a_mcommands 155 m_commands]) := hD
          subst hQ
          exact W.iret hx hb hr (gRi5 (c1 := m_thrown_v7) (c2 := m_answer) (c3 := m_s_v7) (c4 := m_far) (c5 := m_drift) (wf := _) hA0 hsz hw hP hD hS) hS.2.2 dX7_does_161
        · have hw := hw.2 c_24_3
          by_cases c_24_4 : (m_commands x1.toNatClampNeg) = 112
          · have hw := hw.1 c_24_4
            refine lv_lookup (off := 125) (tgt := 149) hx hb dX7_does_24 rfl (gLk c_24_4 rfl) (by decide) ?_
            refine lv_aload_n hx hb dX7_does_149 rfl (lv_at hl 2 rfl) ?_
            refine lv_iload_n hx hb dX7_does_150 rfl (lv_at hl 1 rfl) ?_
            refine gCi2 (gRunV (As := [.int (m_commands (x1 + 1).toNatClampNeg)]) (rest := []) ⟨hx, hb, hml, hown, hts⟩ (ctX7_ploughs l g a_mo a_ms a_mwas a_mtried a_msaved a_mpast a_mfar a_mdrift a_mline a_mtape a_mcommands _ m_changes m_thrown m_errorAt m_failedAt m_answer m_isSaved m_lined m_taped m_here m_commandMany m_s (m_commands (x1 + 1).toNatClampNeg) hw) (cwV 1 hts gX7_does_X7_ploughs rfl rfl rfl (by decide +kernel) ⟨Nat.le_of_ble_eq_true rfl, Nat.le_of_ble_eq_true rfl⟩) hE (gSub hP [0, 1]) (gDSub hD [0, 1] rfl) 0 11 rfl rfl rfl rfl rfl hl.1 rfl (lv_room (Nat.le_of_ble_eq_true rfl)) dX7_does_151 ⟨Nat.le_of_ble_eq_true rfl, Nat.le_of_ble_eq_true rfl⟩) hP hD hS hA [0, 1] rfl (fun _ _ => rfl) rfl (fun r8 m_thrown_v8 m_s_v8 H locs hw hP hD hS => ?_)
            have hP : va_P g.1 vwCl (List.flatten [kMo g a_mo a_ms a_mwas a_mtried a_msaved a_mpast a_mfar a_mdrift a_mline a_mtape a_mcommands m_changes m_thrown_v8 m_errorAt m_failedAt m_answer m_isSaved m_lined m_taped m_here m_commandMany, kAr g a_ms 130 m_s_v8, kAr g a_mfar 8 m_far, kAr g a_mdrift 12 m_drift, kAr g a_mcommands 155 m_commands]) H := hP
            have hD : va_D A (List.flatten [kMo g a_mo a_ms a_mwas a_mtried a_msaved a_mpast a_mfar a_mdrift a_mline a_mtape a_mcommands m_changes m_thrown_v8 m_errorAt m_failedAt m_answer m_isSaved m_lined m_taped m_here m_commandMany, kAr g a_ms 130 m_s_v8, kAr g a_mfar 8 m_far, kAr g a_mdrift 12 m_drift, kAr g a_mcommands 155 m_commands]) := hD
            subst hQ
            exact W.iret hx hb hr (gRi5 (c1 := m_thrown_v8) (c2 := m_answer) (c3 := m_s_v8) (c4 := m_far) (c5 := m_drift) (wf := _) hA0 hsz hw hP hD hS) hS.2.2 dX7_does_154
          · have hw := hw.2 c_24_4
            by_cases c_24_5 : (m_commands x1.toNatClampNeg) = 115
            · have hw := hw.1 c_24_5
              refine lv_lookup (off := 76) (tgt := 100) hx hb dX7_does_24 rfl (gLk c_24_5 rfl) (by decide) ?_
              refine lv_aload_n hx hb dX7_does_100 rfl (lv_at hl 2 rfl) ?_
              refine lv_iload_n hx hb dX7_does_101 rfl (lv_at hl 1 rfl) ?_
              refine lv_iload_n hx hb dX7_does_102 rfl (lv_at hl 0 rfl) ?_
              refine lv_aload_n hx hb dX7_does_103 rfl (lv_at hl 2 rfl) ?_
              refine va_get (D := g.1) (ci := 11) (v := .ref (a_mcommands 0)) (C := RX7) (T := TX7) (N := 20) hx hb hts inX7_does_X7 hown hE.1 hP 0 rfl rfl 16 (by decide) (gW hts 1 (.fieldLink RX7 44 "SnowDispatcherModel" "commands" "[I") rfl) (fun _ h9 => h9) rfl dX7_does_104 ?_
              refine lv_iload_n hx hb dX7_does_107 rfl (lv_at hl 3 rfl) ?_
              refine lv_iconst (v := 3) hx hb dX7_does_108 (by decide) ?_
              refine lv_iadd hx hb dX7_does_109 ?_
              have h9 := hw.1
              have hw := hw.2
              refine va_iald hx hb hE.1 hP 4 0 rfl rfl h9 dX7_does_110 ?_
              refine lv_aload_n hx hb dX7_does_111 rfl (lv_at hl 2 rfl) ?_
              refine va_get (D := g.1) (ci := 11) (v := .ref (a_mcommands 0)) (C := RX7) (T := TX7) (N := 20) hx hb hts inX7_does_X7 hown hE.1 hP 0 rfl rfl 16 (by decide) (gW hts 1 (.fieldLink RX7 44 "SnowDispatcherModel" "commands" "[I") rfl) (fun _ h9 => h9) rfl dX7_does_112 ?_
              refine lv_iload_n hx hb dX7_does_115 rfl (lv_at hl 3 rfl) ?_
              refine lv_iconst (v := 4) hx hb dX7_does_116 (by decide) ?_
              refine lv_iadd hx hb dX7_does_117 ?_
              have h10 := hw.1
              have hw := hw.2
              refine va_iald hx hb hE.1 hP 4 0 rfl rfl h10 dX7_does_118 ?_
              refine gCi2 (gRunV (As := [.int (m_commands (x1 + 1).toNatClampNeg), .int (m_commands (x1 + 2).toNatClampNeg), .int (m_commands (x1 + 3).toNatClampNeg), .int (m_commands (x1 + 4).toNatClampNeg)]) (rest := []) ⟨hx, hb, hml, hown, hts⟩ (ctX7_streets l g a_mo a_ms a_mwas a_mtried a_msaved a_mpast a_mfar a_mdrift a_mline a_mtape a_mcommands _ m_changes m_thrown m_errorAt m_failedAt m_answer m_isSaved m_lined m_taped m_here m_commandMany m_s (m_commands (x1 + 1).toNatClampNeg) (m_commands (x1 + 2).toNatClampNeg) (m_commands (x1 + 3).toNatClampNeg) (m_commands (x1 + 4).toNatClampNeg) hw) (cwV 4 hts gX7_does_X7_streets rfl rfl rfl (by decide +kernel) ⟨Nat.le_of_ble_eq_true rfl, Nat.le_of_ble_eq_true rfl⟩) hE (gSub hP [0, 1]) (gDSub hD [0, 1] rfl) 0 11 rfl rfl rfl rfl rfl hl.1 rfl (lv_room (Nat.le_of_ble_eq_true rfl)) dX7_does_119 ⟨Nat.le_of_ble_eq_true rfl, Nat.le_of_ble_eq_true rfl⟩) hP hD hS hA [0, 1] rfl (fun _ _ => rfl) rfl (fun r11 m_thrown_v11 m_s_v11 H locs hw hP hD hS => ?_)
              have hP : va_P g.1 vwCl (List.flatten [kMo g a_mo a_ms a_mwas a_mtried a_msaved a_mpast a_mfar a_mdrift a_mline a_mtape a_mcommands m_changes m_thrown_v11 m_errorAt m_failedAt m_answer m_isSaved m_lined m_taped m_here m_commandMany, kAr g a_ms 130 m_s_v11, kAr g a_mfar 8 m_far, kAr g a_mdrift 12 m_drift, kAr g a_mcommands 155 m_commands]) H := hP
              have hD : va_D A (List.flatten [kMo g a_mo a_ms a_mwas a_mtried a_msaved a_mpast a_mfar a_mdrift a_mline a_mtape a_mcommands m_changes m_thrown_v11 m_errorAt m_failedAt m_answer m_isSaved m_lined m_taped m_here m_commandMany, kAr g a_ms 130 m_s_v11, kAr g a_mfar 8 m_far, kAr g a_mdrift 12 m_drift, kAr g a_mcommands 155 m_commands]) := hD
              subst hQ
              exact W.iret hx hb hr (gRi5 (c1 := m_thrown_v11) (c2 := m_answer) (c3 := m_s_v11) (c4 := m_far) (c5 := m_drift) (wf := _) hA0 hsz hw hP hD hS) hS.2.2 dX7_does_122
            · have hw := hw.2 c_24_5
              by_cases c_24_6 : (m_commands x1.toNatClampNeg) = 116
              · have hw := hw.1 c_24_6
                refine lv_lookup (off := 119) (tgt := 143) hx hb dX7_does_24 rfl (gLk c_24_6 rfl) (by decide) ?_
                refine lv_aload_n hx hb dX7_does_143 rfl (lv_at hl 2 rfl) ?_
                refine lv_iload_n hx hb dX7_does_144 rfl (lv_at hl 1 rfl) ?_
                refine gCi5 (gRunV (As := [.int (m_commands (x1 + 1).toNatClampNeg)]) (rest := []) ⟨hx, hb, hml, hown, hts⟩ (ctX7_waits l g a_mo a_ms a_mwas a_mtried a_msaved a_mpast a_mfar a_mdrift a_mline a_mtape a_mcommands _ m_changes m_thrown m_errorAt m_failedAt m_answer m_isSaved m_lined m_taped m_here m_commandMany m_s m_far m_drift (m_commands (x1 + 1).toNatClampNeg) hw) (cwV 1 hts gX7_does_X7_waits rfl rfl rfl (by decide +kernel) ⟨Nat.le_of_ble_eq_true rfl, Nat.le_of_ble_eq_true rfl⟩) hE (gSub hP [0, 1, 2, 3]) (gDSub hD [0, 1, 2, 3] rfl) 0 11 rfl rfl rfl rfl rfl hl.1 rfl (lv_room (Nat.le_of_ble_eq_true rfl)) dX7_does_145 ⟨Nat.le_of_ble_eq_true rfl, Nat.le_of_ble_eq_true rfl⟩) hP hD hS hA [0, 1, 2, 3] rfl (fun _ _ _ _ _ => rfl) rfl (fun r12 m_thrown_v12 m_answer_v12 m_s_v12 m_far_v12 m_drift_v12 H locs hw hP hD hS => ?_)
                have hP : va_P g.1 vwCl (List.flatten [kMo g a_mo a_ms a_mwas a_mtried a_msaved a_mpast a_mfar a_mdrift a_mline a_mtape a_mcommands m_changes m_thrown_v12 m_errorAt m_failedAt m_answer_v12 m_isSaved m_lined m_taped m_here m_commandMany, kAr g a_ms 130 m_s_v12, kAr g a_mfar 8 m_far_v12, kAr g a_mdrift 12 m_drift_v12, kAr g a_mcommands 155 m_commands]) H := hP
                have hD : va_D A (List.flatten [kMo g a_mo a_ms a_mwas a_mtried a_msaved a_mpast a_mfar a_mdrift a_mline a_mtape a_mcommands m_changes m_thrown_v12 m_errorAt m_failedAt m_answer_v12 m_isSaved m_lined m_taped m_here m_commandMany, kAr g a_ms 130 m_s_v12, kAr g a_mfar 8 m_far_v12, kAr g a_mdrift 12 m_drift_v12, kAr g a_mcommands 155 m_commands]) := hD
                subst hQ
                exact W.iret hx hb hr (gRi5 (c1 := m_thrown_v12) (c2 := m_answer_v12) (c3 := m_s_v12) (c4 := m_far_v12) (c5 := m_drift_v12) (wf := _) hA0 hsz hw hP hD hS) hS.2.2 dX7_does_148
              · have hw := hw.2 c_24_6
                by_cases c_24_7 : (m_commands x1.toNatClampNeg) = 119
                · have hw := hw.1 c_24_7
                  refine lv_lookup (off := 112) (tgt := 136) hx hb dX7_does_24 rfl (gLk c_24_7 rfl) (by decide) ?_
                  refine lv_aload_n hx hb dX7_does_136 rfl (lv_at hl 2 rfl) ?_
                  refine lv_iconst (v := 5) hx hb dX7_does_137 (by decide) ?_
                  refine lv_iload_n hx hb dX7_does_138 rfl (lv_at hl 1 rfl) ?_
                  refine gCi2 (gRunV (As := [.int 5, .int (m_commands (x1 + 1).toNatClampNeg)]) (rest := []) ⟨hx, hb, hml, hown, hts⟩ (ctX7_tells l g a_mo a_ms a_mwas a_mtried a_msaved a_mpast a_mfar a_mdrift a_mline a_mtape a_mcommands _ m_changes m_thrown m_errorAt m_failedAt m_answer m_isSaved m_lined m_taped m_here m_commandMany m_s 5 (m_commands (x1 + 1).toNatClampNeg) hw) (cwV 2 hts gX7_does_X7_tells rfl rfl rfl (by decide +kernel) ⟨Nat.le_of_ble_eq_true rfl, Nat.le_of_ble_eq_true rfl⟩) hE (gSub hP [0, 1]) (gDSub hD [0, 1] rfl) 0 11 rfl rfl rfl rfl rfl hl.1 rfl (lv_room (Nat.le_of_ble_eq_true rfl)) dX7_does_139 ⟨Nat.le_of_ble_eq_true rfl, Nat.le_of_ble_eq_true rfl⟩) hP hD hS hA [0, 1] rfl (fun _ _ => rfl) rfl (fun r13 m_thrown_v13 m_s_v13 H locs hw hP hD hS => ?_)
                  have hP : va_P g.1 vwCl (List.flatten [kMo g a_mo a_ms a_mwas a_mtried a_msaved a_mpast a_mfar a_mdrift a_mline a_mtape a_mcommands m_changes m_thrown_v13 m_errorAt m_failedAt m_answer m_isSaved m_lined m_taped m_here m_commandMany, kAr g a_ms 130 m_s_v13, kAr g a_mfar 8 m_far, kAr g a_mdrift 12 m_drift, kAr g a_mcommands 155 m_commands]) H := hP
                  have hD : va_D A (List.flatten [kMo g a_mo a_ms a_mwas a_mtried a_msaved a_mpast a_mfar a_mdrift a_mline a_mtape a_mcommands m_changes m_thrown_v13 m_errorAt m_failedAt m_answer m_isSaved m_lined m_taped m_here m_commandMany, kAr g a_ms 130 m_s_v13, kAr g a_mfar 8 m_far, kAr g a_mdrift 12 m_drift, kAr g a_mcommands 155 m_commands]) := hD
                  subst hQ
                  exact W.iret hx hb hr (gRi5 (c1 := m_thrown_v13) (c2 := m_answer) (c3 := m_s_v13) (c4 := m_far) (c5 := m_drift) (wf := _) hA0 hsz hw hP hD hS) hS.2.2 dX7_does_142
                · have hw := hw.2 c_24_7
                  refine lv_lookup (off := 144) (tgt := 168) hx hb dX7_does_24 rfl ((lv_osw c_24_0 rfl).trans ((lv_osw c_24_1 rfl).trans ((lv_osw c_24_2 rfl).trans ((lv_osw c_24_3 rfl).trans ((lv_osw c_24_4 rfl).trans ((lv_osw c_24_5 rfl).trans ((lv_osw c_24_6 rfl).trans ((lv_osw c_24_7 rfl).trans rfl)))))))) (by decide) ?_
                  refine lv_aload_n hx hb dX7_does_168 rfl (lv_at hl 2 rfl) ?_
                  refine lv_iload_n hx hb dX7_does_169 rfl (lv_at hl 1 rfl) ?_
                  refine gCi2 (gRunV (As := [.int (m_commands (x1 + 1).toNatClampNeg)]) (rest := []) ⟨hx, hb, hml, hown, hts⟩ (ctX7_loads l g a_mo a_ms a_mwas a_mtried a_msaved a_mpast a_mfar a_mdrift a_mline a_mtape a_mcommands _ m_changes m_thrown m_errorAt m_failedAt m_answer m_isSaved m_lined m_taped m_here m_commandMany m_s (m_commands (x1 + 1).toNatClampNeg) hw) (cwV 1 hts gX7_does_X7_loads rfl rfl rfl (by decide +kernel) ⟨Nat.le_of_ble_eq_true rfl, Nat.le_of_ble_eq_true rfl⟩) hE (gSub hP [0, 1]) (gDSub hD [0, 1] rfl) 0 11 rfl rfl rfl rfl rfl hl.1 rfl (lv_room (Nat.le_of_ble_eq_true rfl)) dX7_does_170 ⟨Nat.le_of_ble_eq_true rfl, Nat.le_of_ble_eq_true rfl⟩) hP hD hS hA [0, 1] rfl (fun _ _ => rfl) rfl (fun r14 m_thrown_v14 m_s_v14 H locs hw hP hD hS => ?_)
                  have hP : va_P g.1 vwCl (List.flatten [kMo g a_mo a_ms a_mwas a_mtried a_msaved a_mpast a_mfar a_mdrift a_mline a_mtape a_mcommands m_changes m_thrown_v14 m_errorAt m_failedAt m_answer m_isSaved m_lined m_taped m_here m_commandMany, kAr g a_ms 130 m_s_v14, kAr g a_mfar 8 m_far, kAr g a_mdrift 12 m_drift, kAr g a_mcommands 155 m_commands]) H := hP
                  have hD : va_D A (List.flatten [kMo g a_mo a_ms a_mwas a_mtried a_msaved a_mpast a_mfar a_mdrift a_mline a_mtape a_mcommands m_changes m_thrown_v14 m_errorAt m_failedAt m_answer m_isSaved m_lined m_taped m_here m_commandMany, kAr g a_ms 130 m_s_v14, kAr g a_mfar 8 m_far, kAr g a_mdrift 12 m_drift, kAr g a_mcommands 155 m_commands]) := hD
                  subst hQ
                  exact W.iret hx hb hr (gRi5 (c1 := m_thrown_v14) (c2 := m_answer) (c3 := m_s_v14) (c4 := m_far) (c5 := m_drift) (wf := _) hA0 hsz hw hP hD hS) hS.2.2 dX7_does_173
abbrev rmX7_errorPosition : Room := { frames := 2, cells := 0, slots := 0, locals := 123 }
set_option maxRecDepth 20000 in
theorem inX7_errorPosition_X7 : ∀ w ∈ wsX70, w ∈ wsX7_errorPosition := by decide +kernel
set_option maxHeartbeats 4000000 in
set_option maxRecDepth 100000 in
theorem ctX7_errorPosition (l : Launch) (g : GG) (a_mo : Nat → Nat) (a_ms : Nat → Nat) (a_mwas : Nat → Nat) (a_mtried : Nat → Nat) (a_msaved : Nat → Nat) (a_mpast : Nat → Nat) (a_mfar : Nat → Nat) (a_mdrift : Nat → Nat) (a_mline : Nat → Nat) (a_mtape : Nat → Nat) (a_mcommands : Nat → Nat) (sz : Nat) (m_changes : Int32) (m_thrown : Int32) (m_errorAt : Int32) (m_failedAt : Int32) (m_answer : Int32) (m_isSaved : Int32) (m_lined : Int32) (m_taped : Int32) (m_here : Int32) (m_commandMany : Int32) {post : Int32 → Int32 → Prop} (hw : wpX7_errorPosition m_thrown m_errorAt post) :
    Met l yX7_errorPosition wsX7_errorPosition rmX7_errorPosition (gPc g sz (List.flatten [kMo g a_mo a_ms a_mwas a_mtried a_msaved a_mpast a_mfar a_mdrift a_mline a_mtape a_mcommands m_changes m_thrown m_errorAt m_failedAt m_answer m_isSaved m_lined m_taped m_here m_commandMany]) [.ref (a_mo 0)]) (gQi1 post (fun u1 => gB g (List.flatten [kMo g a_mo a_ms a_mwas a_mtried a_msaved a_mpast a_mfar a_mdrift a_mline a_mtape a_mcommands m_changes m_thrown m_errorAt m_failedAt m_answer m_isSaved m_lined m_taped m_here m_commandMany]) sz (List.flatten [kMo g a_mo a_ms a_mwas a_mtried a_msaved a_mpast a_mfar a_mdrift a_mline a_mtape a_mcommands m_changes u1 m_errorAt m_failedAt m_answer m_isSaved m_lined m_taped m_here m_commandMany])) (va_A (List.flatten [kMo g a_mo a_ms a_mwas a_mtried a_msaved a_mpast a_mfar a_mdrift a_mline a_mtape a_mcommands m_changes m_thrown m_errorAt m_failedAt m_answer m_isSaved m_lined m_taped m_here m_commandMany]) sz)) 0 0 (va_A (List.flatten [kMo g a_mo a_ms a_mwas a_mtried a_msaved a_mpast a_mfar a_mdrift a_mline a_mtape a_mcommands m_changes m_thrown m_errorAt m_failedAt m_answer m_isSaved m_lined m_taped m_here m_commandMany]) sz) := by
  refine gOf (cc := cX7_errorPosition) (maxL := 1) (ret := (some .int)) (by decide) rfl (Nat.le_of_ble_eq_true rfl) ?_
  intro p e s m below meth c ls Q A hQ hx hb hr hml hts hown hlocks hE hA0 hsz hP hD hA hS hl
  have hl : lv_has ls 1 [(0, .ref (a_mo 0))] := hl
  refine lv_aload_n hx hb dX7_errorPosition_0 rfl (lv_at hl 0 rfl) ?_
  refine lv_aload_n hx hb dX7_errorPosition_1 rfl (lv_at hl 0 rfl) ?_
  refine va_get (D := g.1) (ci := 11) (v := .int m_errorAt) (C := RX7) (T := TX7) (N := 20) hx hb hts inX7_errorPosition_X7 hown hE.1 hP 0 rfl rfl 9 (by decide) (gW hts 1 (.fieldLink RX7 31 "SnowDispatcherModel" "errorAt" "I") rfl) (fun _ h9 => h9) rfl dX7_errorPosition_2 ?_
  refine lv_if_ge (tgt := 12) hx hb dX7_errorPosition_5 (by decide) (fun c_5 => ?_) (fun c_5 => ?_)
  · have hw := hw.1 c_5
    refine lv_iconst (v := 0) hx hb dX7_errorPosition_12 (by decide) ?_
    refine lv_iconst (v := 1) hx hb dX7_errorPosition_13 (by decide) ?_
    refine gCi1 (gRunV (As := [.int 0, .int 1]) (rest := []) ⟨hx, hb, hml, hown, hts⟩ (ctX7_isThrown l g a_mo a_ms a_mwas a_mtried a_msaved a_mpast a_mfar a_mdrift a_mline a_mtape a_mcommands _ m_changes m_thrown m_errorAt m_failedAt m_answer m_isSaved m_lined m_taped m_here m_commandMany 0 1 hw) (cwV 2 hts gX7_errorPosition_X7_isThrown rfl rfl rfl (by decide +kernel) ⟨Nat.le_of_ble_eq_true rfl, Nat.le_of_ble_eq_true rfl⟩) hE (gSub hP [0]) (gDSub hD [0] rfl) 0 11 rfl rfl rfl rfl rfl hl.1 rfl (lv_room (Nat.le_of_ble_eq_true rfl)) dX7_errorPosition_14 ⟨Nat.le_of_ble_eq_true rfl, Nat.le_of_ble_eq_true rfl⟩) hP hD hS hA [0] rfl (fun _ => rfl) rfl (fun r1 m_thrown_v1 H locs hw hP hD hS => ?_)
    have hP : va_P g.1 vwCl (List.flatten [kMo g a_mo a_ms a_mwas a_mtried a_msaved a_mpast a_mfar a_mdrift a_mline a_mtape a_mcommands m_changes m_thrown_v1 m_errorAt m_failedAt m_answer m_isSaved m_lined m_taped m_here m_commandMany]) H := hP
    have hD : va_D A (List.flatten [kMo g a_mo a_ms a_mwas a_mtried a_msaved a_mpast a_mfar a_mdrift a_mline a_mtape a_mcommands m_changes m_thrown_v1 m_errorAt m_failedAt m_answer m_isSaved m_lined m_taped m_here m_commandMany]) := hD
    refine lv_if_eq (tgt := 24) hx hb dX7_errorPosition_17 (by decide) (fun c_17 => ?_) (fun c_17 => ?_)
    · have hw := hw.1 c_17
      refine lv_aload_n hx hb dX7_errorPosition_24 rfl (lv_at hl 0 rfl) ?_
      refine va_get (D := g.1) (ci := 11) (v := .int m_errorAt) (C := RX7) (T := TX7) (N := 20) hx hb hts inX7_errorPosition_X7 hown hE.1 hP 0 rfl rfl 9 (by decide) (gW hts 1 (.fieldLink RX7 31 "SnowDispatcherModel" "errorAt" "I") rfl) (fun _ h9 => h9) rfl dX7_errorPosition_25 ?_
      subst hQ
      exact W.iret hx hb hr (gRi1 (c1 := m_thrown_v1) (wf := _) hA0 hsz hw hP hD hS) hS.2.2 dX7_errorPosition_28
    · have hw := hw.2 c_17
      refine lv_iconst (v := 0) hx hb dX7_errorPosition_20 (by decide) ?_
      refine lv_goto (tgt := 28) hx hb dX7_errorPosition_21 (by decide) ?_
      subst hQ
      exact W.iret hx hb hr (gRi1 (c1 := m_thrown_v1) (wf := _) hA0 hsz hw hP hD hS) hS.2.2 dX7_errorPosition_28
  · have hw := hw.2 c_5
    refine lv_iconst (v := 1) hx hb dX7_errorPosition_8 (by decide) ?_
    refine lv_goto (tgt := 13) hx hb dX7_errorPosition_9 (by decide) ?_
    refine lv_iconst (v := 1) hx hb dX7_errorPosition_13 (by decide) ?_
    refine gCi1 (gRunV (As := [.int 1, .int 1]) (rest := []) ⟨hx, hb, hml, hown, hts⟩ (ctX7_isThrown l g a_mo a_ms a_mwas a_mtried a_msaved a_mpast a_mfar a_mdrift a_mline a_mtape a_mcommands _ m_changes m_thrown m_errorAt m_failedAt m_answer m_isSaved m_lined m_taped m_here m_commandMany 1 1 hw) (cwV 2 hts gX7_errorPosition_X7_isThrown rfl rfl rfl (by decide +kernel) ⟨Nat.le_of_ble_eq_true rfl, Nat.le_of_ble_eq_true rfl⟩) hE (gSub hP [0]) (gDSub hD [0] rfl) 0 11 rfl rfl rfl rfl rfl hl.1 rfl (lv_room (Nat.le_of_ble_eq_true rfl)) dX7_errorPosition_14 ⟨Nat.le_of_ble_eq_true rfl, Nat.le_of_ble_eq_true rfl⟩) hP hD hS hA [0] rfl (fun _ => rfl) rfl (fun r2 m_thrown_v2 H locs hw hP hD hS => ?_)
    have hP : va_P g.1 vwCl (List.flatten [kMo g a_mo a_ms a_mwas a_mtried a_msaved a_mpast a_mfar a_mdrift a_mline a_mtape a_mcommands m_changes m_thrown_v2 m_errorAt m_failedAt m_answer m_isSaved m_lined m_taped m_here m_commandMany]) H := hP
    have hD : va_D A (List.flatten [kMo g a_mo a_ms a_mwas a_mtried a_msaved a_mpast a_mfar a_mdrift a_mline a_mtape a_mcommands m_changes m_thrown_v2 m_errorAt m_failedAt m_answer m_isSaved m_lined m_taped m_here m_commandMany]) := hD
    refine lv_if_eq (tgt := 24) hx hb dX7_errorPosition_17 (by decide) (fun c_17 => ?_) (fun c_17 => ?_)
    · have hw := hw.1 c_17
      refine lv_aload_n hx hb dX7_errorPosition_24 rfl (lv_at hl 0 rfl) ?_
      refine va_get (D := g.1) (ci := 11) (v := .int m_errorAt) (C := RX7) (T := TX7) (N := 20) hx hb hts inX7_errorPosition_X7 hown hE.1 hP 0 rfl rfl 9 (by decide) (gW hts 1 (.fieldLink RX7 31 "SnowDispatcherModel" "errorAt" "I") rfl) (fun _ h9 => h9) rfl dX7_errorPosition_25 ?_
      subst hQ
      exact W.iret hx hb hr (gRi1 (c1 := m_thrown_v2) (wf := _) hA0 hsz hw hP hD hS) hS.2.2 dX7_errorPosition_28
    · have hw := hw.2 c_17
      refine lv_iconst (v := 0) hx hb dX7_errorPosition_20 (by decide) ?_
      refine lv_goto (tgt := 28) hx hb dX7_errorPosition_21 (by decide) ?_
      subst hQ
      exact W.iret hx hb hr (gRi1 (c1 := m_thrown_v2) (wf := _) hA0 hsz hw hP hD hS) hS.2.2 dX7_errorPosition_28
abbrev rmX7_failedCommand : Room := { frames := 2, cells := 0, slots := 0, locals := 123 }
set_option maxRecDepth 20000 in
theorem inX7_failedCommand_X7 : ∀ w ∈ wsX70, w ∈ wsX7_failedCommand := by decide +kernel
set_option maxHeartbeats 4000000 in
set_option maxRecDepth 100000 in
theorem ctX7_failedCommand (l : Launch) (g : GG) (a_mo : Nat → Nat) (a_ms : Nat → Nat) (a_mwas : Nat → Nat) (a_mtried : Nat → Nat) (a_msaved : Nat → Nat) (a_mpast : Nat → Nat) (a_mfar : Nat → Nat) (a_mdrift : Nat → Nat) (a_mline : Nat → Nat) (a_mtape : Nat → Nat) (a_mcommands : Nat → Nat) (sz : Nat) (m_changes : Int32) (m_thrown : Int32) (m_errorAt : Int32) (m_failedAt : Int32) (m_answer : Int32) (m_isSaved : Int32) (m_lined : Int32) (m_taped : Int32) (m_here : Int32) (m_commandMany : Int32) {post : Int32 → Int32 → Prop} (hw : wpX7_failedCommand m_thrown m_failedAt post) :
    Met l yX7_failedCommand wsX7_failedCommand rmX7_failedCommand (gPc g sz (List.flatten [kMo g a_mo a_ms a_mwas a_mtried a_msaved a_mpast a_mfar a_mdrift a_mline a_mtape a_mcommands m_changes m_thrown m_errorAt m_failedAt m_answer m_isSaved m_lined m_taped m_here m_commandMany]) [.ref (a_mo 0)]) (gQi1 post (fun u1 => gB g (List.flatten [kMo g a_mo a_ms a_mwas a_mtried a_msaved a_mpast a_mfar a_mdrift a_mline a_mtape a_mcommands m_changes m_thrown m_errorAt m_failedAt m_answer m_isSaved m_lined m_taped m_here m_commandMany]) sz (List.flatten [kMo g a_mo a_ms a_mwas a_mtried a_msaved a_mpast a_mfar a_mdrift a_mline a_mtape a_mcommands m_changes u1 m_errorAt m_failedAt m_answer m_isSaved m_lined m_taped m_here m_commandMany])) (va_A (List.flatten [kMo g a_mo a_ms a_mwas a_mtried a_msaved a_mpast a_mfar a_mdrift a_mline a_mtape a_mcommands m_changes m_thrown m_errorAt m_failedAt m_answer m_isSaved m_lined m_taped m_here m_commandMany]) sz)) 0 0 (va_A (List.flatten [kMo g a_mo a_ms a_mwas a_mtried a_msaved a_mpast a_mfar a_mdrift a_mline a_mtape a_mcommands m_changes m_thrown m_errorAt m_failedAt m_answer m_isSaved m_lined m_taped m_here m_commandMany]) sz) := by
  refine gOf (cc := cX7_failedCommand) (maxL := 1) (ret := (some .int)) (by decide) rfl (Nat.le_of_ble_eq_true rfl) ?_
  intro p e s m below meth c ls Q A hQ hx hb hr hml hts hown hlocks hE hA0 hsz hP hD hA hS hl
  have hl : lv_has ls 1 [(0, .ref (a_mo 0))] := hl
  refine lv_aload_n hx hb dX7_failedCommand_0 rfl (lv_at hl 0 rfl) ?_
  refine lv_aload_n hx hb dX7_failedCommand_1 rfl (lv_at hl 0 rfl) ?_
  refine va_get (D := g.1) (ci := 11) (v := .int m_failedAt) (C := RX7) (T := TX7) (N := 20) hx hb hts inX7_failedCommand_X7 hown hE.1 hP 0 rfl rfl 10 (by decide) (gW hts 1 (.fieldLink RX7 35 "SnowDispatcherModel" "failedAt" "I") rfl) (fun _ h9 => h9) rfl dX7_failedCommand_2 ?_
  refine lv_if_ge (tgt := 12) hx hb dX7_failedCommand_5 (by decide) (fun c_5 => ?_) (fun c_5 => ?_)
  · have hw := hw.1 c_5
    refine lv_iconst (v := 0) hx hb dX7_failedCommand_12 (by decide) ?_
    refine lv_iconst (v := 1) hx hb dX7_failedCommand_13 (by decide) ?_
    refine gCi1 (gRunV (As := [.int 0, .int 1]) (rest := []) ⟨hx, hb, hml, hown, hts⟩ (ctX7_isThrown l g a_mo a_ms a_mwas a_mtried a_msaved a_mpast a_mfar a_mdrift a_mline a_mtape a_mcommands _ m_changes m_thrown m_errorAt m_failedAt m_answer m_isSaved m_lined m_taped m_here m_commandMany 0 1 hw) (cwV 2 hts gX7_failedCommand_X7_isThrown rfl rfl rfl (by decide +kernel) ⟨Nat.le_of_ble_eq_true rfl, Nat.le_of_ble_eq_true rfl⟩) hE (gSub hP [0]) (gDSub hD [0] rfl) 0 11 rfl rfl rfl rfl rfl hl.1 rfl (lv_room (Nat.le_of_ble_eq_true rfl)) dX7_failedCommand_14 ⟨Nat.le_of_ble_eq_true rfl, Nat.le_of_ble_eq_true rfl⟩) hP hD hS hA [0] rfl (fun _ => rfl) rfl (fun r1 m_thrown_v1 H locs hw hP hD hS => ?_)
    have hP : va_P g.1 vwCl (List.flatten [kMo g a_mo a_ms a_mwas a_mtried a_msaved a_mpast a_mfar a_mdrift a_mline a_mtape a_mcommands m_changes m_thrown_v1 m_errorAt m_failedAt m_answer m_isSaved m_lined m_taped m_here m_commandMany]) H := hP
    have hD : va_D A (List.flatten [kMo g a_mo a_ms a_mwas a_mtried a_msaved a_mpast a_mfar a_mdrift a_mline a_mtape a_mcommands m_changes m_thrown_v1 m_errorAt m_failedAt m_answer m_isSaved m_lined m_taped m_here m_commandMany]) := hD
    refine lv_if_eq (tgt := 24) hx hb dX7_failedCommand_17 (by decide) (fun c_17 => ?_) (fun c_17 => ?_)
    · have hw := hw.1 c_17
      refine lv_aload_n hx hb dX7_failedCommand_24 rfl (lv_at hl 0 rfl) ?_
      refine va_get (D := g.1) (ci := 11) (v := .int m_failedAt) (C := RX7) (T := TX7) (N := 20) hx hb hts inX7_failedCommand_X7 hown hE.1 hP 0 rfl rfl 10 (by decide) (gW hts 1 (.fieldLink RX7 35 "SnowDispatcherModel" "failedAt" "I") rfl) (fun _ h9 => h9) rfl dX7_failedCommand_25 ?_
      subst hQ
      exact W.iret hx hb hr (gRi1 (c1 := m_thrown_v1) (wf := _) hA0 hsz hw hP hD hS) hS.2.2 dX7_failedCommand_28
    · have hw := hw.2 c_17
      refine lv_iconst (v := 0) hx hb dX7_failedCommand_20 (by decide) ?_
      refine lv_goto (tgt := 28) hx hb dX7_failedCommand_21 (by decide) ?_
      subst hQ
      exact W.iret hx hb hr (gRi1 (c1 := m_thrown_v1) (wf := _) hA0 hsz hw hP hD hS) hS.2.2 dX7_failedCommand_28
  · have hw := hw.2 c_5
    refine lv_iconst (v := 1) hx hb dX7_failedCommand_8 (by decide) ?_
    refine lv_goto (tgt := 13) hx hb dX7_failedCommand_9 (by decide) ?_
    refine lv_iconst (v := 1) hx hb dX7_failedCommand_13 (by decide) ?_
    refine gCi1 (gRunV (As := [.int 1, .int 1]) (rest := []) ⟨hx, hb, hml, hown, hts⟩ (ctX7_isThrown l g a_mo a_ms a_mwas a_mtried a_msaved a_mpast a_mfar a_mdrift a_mline a_mtape a_mcommands _ m_changes m_thrown m_errorAt m_failedAt m_answer m_isSaved m_lined m_taped m_here m_commandMany 1 1 hw) (cwV 2 hts gX7_failedCommand_X7_isThrown rfl rfl rfl (by decide +kernel) ⟨Nat.le_of_ble_eq_true rfl, Nat.le_of_ble_eq_true rfl⟩) hE (gSub hP [0]) (gDSub hD [0] rfl) 0 11 rfl rfl rfl rfl rfl hl.1 rfl (lv_room (Nat.le_of_ble_eq_true rfl)) dX7_failedCommand_14 ⟨Nat.le_of_ble_eq_true rfl, Nat.le_of_ble_eq_true rfl⟩) hP hD hS hA [0] rfl (fun _ => rfl) rfl (fun r2 m_thrown_v2 H locs hw hP hD hS => ?_)
    have hP : va_P g.1 vwCl (List.flatten [kMo g a_mo a_ms a_mwas a_mtried a_msaved a_mpast a_mfar a_mdrift a_mline a_mtape a_mcommands m_changes m_thrown_v2 m_errorAt m_failedAt m_answer m_isSaved m_lined m_taped m_here m_commandMany]) H := hP
    have hD : va_D A (List.flatten [kMo g a_mo a_ms a_mwas a_mtried a_msaved a_mpast a_mfar a_mdrift a_mline a_mtape a_mcommands m_changes m_thrown_v2 m_errorAt m_failedAt m_answer m_isSaved m_lined m_taped m_here m_commandMany]) := hD
    refine lv_if_eq (tgt := 24) hx hb dX7_failedCommand_17 (by decide) (fun c_17 => ?_) (fun c_17 => ?_)
    · have hw := hw.1 c_17
      refine lv_aload_n hx hb dX7_failedCommand_24 rfl (lv_at hl 0 rfl) ?_
      refine va_get (D := g.1) (ci := 11) (v := .int m_failedAt) (C := RX7) (T := TX7) (N := 20) hx hb hts inX7_failedCommand_X7 hown hE.1 hP 0 rfl rfl 10 (by decide) (gW hts 1 (.fieldLink RX7 35 "SnowDispatcherModel" "failedAt" "I") rfl) (fun _ h9 => h9) rfl dX7_failedCommand_25 ?_
      subst hQ
      exact W.iret hx hb hr (gRi1 (c1 := m_thrown_v2) (wf := _) hA0 hsz hw hP hD hS) hS.2.2 dX7_failedCommand_28
    · have hw := hw.2 c_17
      refine lv_iconst (v := 0) hx hb dX7_failedCommand_20 (by decide) ?_
      refine lv_goto (tgt := 28) hx hb dX7_failedCommand_21 (by decide) ?_
      subst hQ
      exact W.iret hx hb hr (gRi1 (c1 := m_thrown_v2) (wf := _) hA0 hsz hw hP hD hS) hS.2.2 dX7_failedCommand_28
abbrev rmX7_undo : Room := { frames := 2, cells := 0, slots := 0, locals := 125 }
set_option maxRecDepth 20000 in
theorem inX7_undo_X7 : ∀ w ∈ wsX70, w ∈ wsX7_undo := by decide +kernel
set_option maxHeartbeats 4000000 in
set_option maxRecDepth 100000 in
theorem ctX7_undo (l : Launch) (g : GG) (a_mo : Nat → Nat) (a_ms : Nat → Nat) (a_mwas : Nat → Nat) (a_mtried : Nat → Nat) (a_msaved : Nat → Nat) (a_mpast : Nat → Nat) (a_mfar : Nat → Nat) (a_mdrift : Nat → Nat) (a_mline : Nat → Nat) (a_mtape : Nat → Nat) (a_mcommands : Nat → Nat) (sz : Nat) (m_changes : Int32) (m_thrown : Int32) (m_errorAt : Int32) (m_failedAt : Int32) (m_answer : Int32) (m_isSaved : Int32) (m_lined : Int32) (m_taped : Int32) (m_here : Int32) (m_commandMany : Int32) (m_s : Nat → Int32) (m_past : Nat → Int32) {post : Int32 → Int32 → Int32 → (Nat → Int32) → Prop} (hw : wpX7_undo m_changes m_thrown m_s m_past post) :
    Met l yX7_undo wsX7_undo rmX7_undo (gPc g sz (List.flatten [kMo g a_mo a_ms a_mwas a_mtried a_msaved a_mpast a_mfar a_mdrift a_mline a_mtape a_mcommands m_changes m_thrown m_errorAt m_failedAt m_answer m_isSaved m_lined m_taped m_here m_commandMany, kAr g a_ms 130 m_s, kAr g a_mpast 1040 m_past]) [.ref (a_mo 0)]) (gQi3 post (fun u1 u2 u3 => gB g (List.flatten [kMo g a_mo a_ms a_mwas a_mtried a_msaved a_mpast a_mfar a_mdrift a_mline a_mtape a_mcommands m_changes m_thrown m_errorAt m_failedAt m_answer m_isSaved m_lined m_taped m_here m_commandMany, kAr g a_ms 130 m_s, kAr g a_mpast 1040 m_past]) sz (List.flatten [kMo g a_mo a_ms a_mwas a_mtried a_msaved a_mpast a_mfar a_mdrift a_mline a_mtape a_mcommands u1 u2 m_errorAt m_failedAt m_answer m_isSaved m_lined m_taped m_here m_commandMany, kAr g a_ms 130 u3, kAr g a_mpast 1040 m_past])) (va_A (List.flatten [kMo g a_mo a_ms a_mwas a_mtried a_msaved a_mpast a_mfar a_mdrift a_mline a_mtape a_mcommands m_changes m_thrown m_errorAt m_failedAt m_answer m_isSaved m_lined m_taped m_here m_commandMany, kAr g a_ms 130 m_s, kAr g a_mpast 1040 m_past]) sz)) 0 0 (va_A (List.flatten [kMo g a_mo a_ms a_mwas a_mtried a_msaved a_mpast a_mfar a_mdrift a_mline a_mtape a_mcommands m_changes m_thrown m_errorAt m_failedAt m_answer m_isSaved m_lined m_taped m_here m_commandMany, kAr g a_ms 130 m_s, kAr g a_mpast 1040 m_past]) sz) := by
  refine gOf (cc := cX7_undo) (maxL := 1) (ret := (some .int)) (by decide) rfl (Nat.le_of_ble_eq_true rfl) ?_
  intro p e s m below meth c ls Q A hQ hx hb hr hml hts hown hlocks hE hA0 hsz hP hD hA hS hl
  have hl : lv_has ls 1 [(0, .ref (a_mo 0))] := hl
  have J13 : ∀ (z1_13 : Int32) (m_changes_13 : Int32) (m_thrown_13 : Int32) (m_s_13 : Nat → Int32) (H : Heap) (locs : List Loc) (ls : Array Slot), wpX7_undo_L13 m_past post z1_13 m_changes_13 m_thrown_13 m_s_13 → va_P g.1 vwCl (List.flatten [kMo g a_mo a_ms a_mwas a_mtried a_msaved a_mpast a_mfar a_mdrift a_mline a_mtape a_mcommands m_changes_13 m_thrown_13 m_errorAt m_failedAt m_answer m_isSaved m_lined m_taped m_here m_commandMany, kAr g a_ms 130 m_s_13, kAr g a_mpast 1040 m_past]) H → va_D A (List.flatten [kMo g a_mo a_ms a_mwas a_mtried a_msaved a_mpast a_mfar a_mdrift a_mline a_mtape a_mcommands m_changes_13 m_thrown_13 m_errorAt m_failedAt m_answer m_isSaved m_lined m_taped m_here m_commandMany, kAr g a_ms 130 m_s_13, kAr g a_mpast 1040 m_past]) → va_S A s.heap H locs → lv_has ls 1 [(0, .ref (a_mo 0))] → W p l e rmX7_undo s m (([.ref (a_mo 0)] : List Value).toArray) below meth c H locs 0 0 Q (F0 m 13 ls [.int z1_13, .ref (a_mo 0)]) := by
    intro z1_13 m_changes_13 m_thrown_13 m_s_13 H locs ls hw hP hD hS hl
    refine lv_iconst (v := 1) hx hb dX7_undo_13 (by decide) ?_
    refine gCi1 (gRunV (As := [.int z1_13, .int 1]) (rest := []) ⟨hx, hb, hml, hown, hts⟩ (ctX7_isThrown l g a_mo a_ms a_mwas a_mtried a_msaved a_mpast a_mfar a_mdrift a_mline a_mtape a_mcommands _ m_changes_13 m_thrown_13 m_errorAt m_failedAt m_answer m_isSaved m_lined m_taped m_here m_commandMany z1_13 1 hw) (cwV 2 hts gX7_undo_X7_isThrown rfl rfl rfl (by decide +kernel) ⟨Nat.le_of_ble_eq_true rfl, Nat.le_of_ble_eq_true rfl⟩) hE (gSub hP [0]) (gDSub hD [0] rfl) 0 11 rfl rfl rfl rfl rfl hl.1 rfl (lv_room (Nat.le_of_ble_eq_true rfl)) dX7_undo_14 ⟨Nat.le_of_ble_eq_true rfl, Nat.le_of_ble_eq_true rfl⟩) hP hD hS hA [0] rfl (fun _ => rfl) rfl (fun r1 m_thrown_v1 H locs hw hP hD hS => ?_)
    have hP : va_P g.1 vwCl (List.flatten [kMo g a_mo a_ms a_mwas a_mtried a_msaved a_mpast a_mfar a_mdrift a_mline a_mtape a_mcommands m_changes_13 m_thrown_v1 m_errorAt m_failedAt m_answer m_isSaved m_lined m_taped m_here m_commandMany, kAr g a_ms 130 m_s_13, kAr g a_mpast 1040 m_past]) H := hP
    have hD : va_D A (List.flatten [kMo g a_mo a_ms a_mwas a_mtried a_msaved a_mpast a_mfar a_mdrift a_mline a_mtape a_mcommands m_changes_13 m_thrown_v1 m_errorAt m_failedAt m_answer m_isSaved m_lined m_taped m_here m_commandMany, kAr g a_ms 130 m_s_13, kAr g a_mpast 1040 m_past]) := hD
    refine lv_if_eq (tgt := 22) hx hb dX7_undo_17 (by decide) (fun c_17 => ?_) (fun c_17 => ?_)
    · have hw := hw.1 c_17
      refine lv_aload_n hx hb dX7_undo_22 rfl (lv_at hl 0 rfl) ?_
      refine lv_dup hx hb dX7_undo_23 rfl ?_
      refine va_get (D := g.1) (ci := 11) (v := .int m_changes_13) (C := RX7) (T := TX7) (N := 20) hx hb hts inX7_undo_X7 hown hE.1 hP 0 rfl rfl 7 (by decide) (gW hts 1 (.fieldLink RX7 54 "SnowDispatcherModel" "changes" "I") rfl) (fun _ h9 => h9) rfl dX7_undo_24 ?_
      refine lv_iconst (v := 1) hx hb dX7_undo_27 (by decide) ?_
      refine lv_isub hx hb dX7_undo_28 ?_
      refine va_put (D := g.1) (ci := 11) (v := .int (m_changes_13 - 1)) (ty := .int) (C := RX7) (T := TX7) (N := 20) hx hb hts inX7_undo_X7 tyX7 tyX7_ok nmX7 hown hE.1 hP hD hS 0 rfl rfl 7 (by decide) (gW hts 1 (.fieldLink RX7 54 "SnowDispatcherModel" "changes" "I") rfl) (fun _ h9 => h9) rfl (by decide +kernel) rfl rfl (Nat.le_of_ble_eq_true rfl) dX7_undo_29 (fun H locs hP hD hS => ?_)
      have hP : va_P g.1 vwCl (List.flatten [kMo g a_mo a_ms a_mwas a_mtried a_msaved a_mpast a_mfar a_mdrift a_mline a_mtape a_mcommands (m_changes_13 - 1) m_thrown_v1 m_errorAt m_failedAt m_answer m_isSaved m_lined m_taped m_here m_commandMany, kAr g a_ms 130 m_s_13, kAr g a_mpast 1040 m_past]) H := hP
      have hD : va_D A (List.flatten [kMo g a_mo a_ms a_mwas a_mtried a_msaved a_mpast a_mfar a_mdrift a_mline a_mtape a_mcommands (m_changes_13 - 1) m_thrown_v1 m_errorAt m_failedAt m_answer m_isSaved m_lined m_taped m_here m_commandMany, kAr g a_ms 130 m_s_13, kAr g a_mpast 1040 m_past]) := hD
      refine lv_aload_n hx hb dX7_undo_32 rfl (lv_at hl 0 rfl) ?_
      refine va_get (D := g.1) (ci := 11) (v := .ref (a_mpast 0)) (C := RX7) (T := TX7) (N := 20) hx hb hts inX7_undo_X7 hown hE.1 hP 0 rfl rfl 4 (by decide) (gW hts 2 (.fieldLink RX7 22 "SnowDispatcherModel" "past" "[I") rfl) (fun _ h9 => h9) rfl dX7_undo_33 ?_
      refine lv_sipush (v := 130) hx hb dX7_undo_36 (by decide) ?_
      refine lv_aload_n hx hb dX7_undo_39 rfl (lv_at hl 0 rfl) ?_
      refine va_get (D := g.1) (ci := 11) (v := .int (m_changes_13 - 1)) (C := RX7) (T := TX7) (N := 20) hx hb hts inX7_undo_X7 hown hE.1 hP 0 rfl rfl 7 (by decide) (gW hts 1 (.fieldLink RX7 54 "SnowDispatcherModel" "changes" "I") rfl) (fun _ h9 => h9) rfl dX7_undo_40 ?_
      refine lv_imul hx hb dX7_undo_43 ?_
      refine lv_aload_n hx hb dX7_undo_44 rfl (lv_at hl 0 rfl) ?_
      refine va_get (D := g.1) (ci := 11) (v := .ref (a_ms 0)) (C := RX7) (T := TX7) (N := 20) hx hb hts inX7_undo_X7 hown hE.1 hP 0 rfl rfl 0 (by decide) (gW hts 3 (.fieldLink RX7 9 "SnowDispatcherModel" "s" "[I") rfl) (fun _ h9 => h9) rfl dX7_undo_45 ?_
      refine lv_iconst (v := 0) hx hb dX7_undo_48 (by decide) ?_
      refine gCv1 (gRunS (As := [.ref (a_mpast 0), .int (130 * (m_changes_13 - 1)), .ref (a_ms 0), .int 0]) (rest := []) ⟨hx, hb, hml, hown, hts⟩ (ctX7_copies l g a_mpast a_ms _ 1040 m_past 130 m_s_13 (130 * (m_changes_13 - 1)) 0 hw) (va_cwS 4 hts gX7_undo_X7_copies rfl rfl rfl (by decide +kernel) ⟨Nat.le_of_ble_eq_true rfl, Nat.le_of_ble_eq_true rfl⟩) hE (gSub hP [2, 1]) (gDSub hD [2, 1] rfl) rfl rfl hl.1 rfl (lv_room (Nat.le_of_ble_eq_true rfl)) dX7_undo_49 ⟨Nat.le_of_ble_eq_true rfl, Nat.le_of_ble_eq_true rfl⟩) hP hD hS hA [2, 1] rfl (fun _ => rfl) rfl (fun m_s_v2 H locs hw hP hD hS => ?_)
      have hP : va_P g.1 vwCl (List.flatten [kMo g a_mo a_ms a_mwas a_mtried a_msaved a_mpast a_mfar a_mdrift a_mline a_mtape a_mcommands (m_changes_13 - 1) m_thrown_v1 m_errorAt m_failedAt m_answer m_isSaved m_lined m_taped m_here m_commandMany, kAr g a_ms 130 m_s_v2, kAr g a_mpast 1040 m_past]) H := hP
      have hD : va_D A (List.flatten [kMo g a_mo a_ms a_mwas a_mtried a_msaved a_mpast a_mfar a_mdrift a_mline a_mtape a_mcommands (m_changes_13 - 1) m_thrown_v1 m_errorAt m_failedAt m_answer m_isSaved m_lined m_taped m_here m_commandMany, kAr g a_ms 130 m_s_v2, kAr g a_mpast 1040 m_past]) := hD
      refine lv_aload_n hx hb dX7_undo_52 rfl (lv_at hl 0 rfl) ?_
      refine va_get (D := g.1) (ci := 11) (v := .int (m_changes_13 - 1)) (C := RX7) (T := TX7) (N := 20) hx hb hts inX7_undo_X7 hown hE.1 hP 0 rfl rfl 7 (by decide) (gW hts 1 (.fieldLink RX7 54 "SnowDispatcherModel" "changes" "I") rfl) (fun _ h9 => h9) rfl dX7_undo_53 ?_
      subst hQ
      exact W.iret hx hb hr (gRi3 (c1 := (m_changes_13 - 1)) (c2 := m_thrown_v1) (c3 := m_s_v2) (wf := _) hA0 hsz hw hP hD hS) hS.2.2 dX7_undo_56
    · have hw := hw.2 c_17
      refine lv_iconst (v := 0) hx hb dX7_undo_20 (by decide) ?_
      subst hQ
      exact W.iret hx hb hr (gRi3 (c1 := m_changes_13) (c2 := m_thrown_v1) (c3 := m_s_13) (wf := _) hA0 hsz hw hP hD hS) hS.2.2 dX7_undo_21
  refine lv_aload_n hx hb dX7_undo_0 rfl (lv_at hl 0 rfl) ?_
  refine lv_aload_n hx hb dX7_undo_1 rfl (lv_at hl 0 rfl) ?_
  refine va_get (D := g.1) (ci := 11) (v := .int m_changes) (C := RX7) (T := TX7) (N := 20) hx hb hts inX7_undo_X7 hown hE.1 hP 0 rfl rfl 7 (by decide) (gW hts 1 (.fieldLink RX7 54 "SnowDispatcherModel" "changes" "I") rfl) (fun _ h9 => h9) rfl dX7_undo_2 ?_
  refine lv_if_ne (tgt := 12) hx hb dX7_undo_5 (by decide) (fun c_5 => ?_) (fun c_5 => ?_)
  · have hw := hw.1 c_5
    refine lv_iconst (v := 0) hx hb dX7_undo_12 (by decide) ?_
    exact J13 0 m_changes m_thrown m_s _ _ _ hw hP hD hS (lv_sub hl [0] rfl)
  · have hw := hw.2 c_5
    refine lv_iconst (v := 1) hx hb dX7_undo_8 (by decide) ?_
    refine lv_goto (tgt := 13) hx hb dX7_undo_9 (by decide) ?_
    exact J13 1 m_changes m_thrown m_s _ _ _ hw hP hD hS (lv_sub hl [0] rfl)
abbrev rmX7_save : Room := { frames := 2, cells := 0, slots := 0, locals := 125 }
set_option maxRecDepth 20000 in
theorem inX7_save_X7 : ∀ w ∈ wsX70, w ∈ wsX7_save := by decide +kernel
set_option maxHeartbeats 4000000 in
set_option maxRecDepth 100000 in
theorem ctX7_save (l : Launch) (g : GG) (a_mo : Nat → Nat) (a_ms : Nat → Nat) (a_mwas : Nat → Nat) (a_mtried : Nat → Nat) (a_msaved : Nat → Nat) (a_mpast : Nat → Nat) (a_mfar : Nat → Nat) (a_mdrift : Nat → Nat) (a_mline : Nat → Nat) (a_mtape : Nat → Nat) (a_mcommands : Nat → Nat) (sz : Nat) (m_changes : Int32) (m_thrown : Int32) (m_errorAt : Int32) (m_failedAt : Int32) (m_answer : Int32) (m_isSaved : Int32) (m_lined : Int32) (m_taped : Int32) (m_here : Int32) (m_commandMany : Int32) (m_s : Nat → Int32) (m_saved : Nat → Int32) {post : Int32 → Int32 → Int32 → (Nat → Int32) → Prop} (hw : wpX7_save m_thrown m_isSaved m_s m_saved post) :
    Met l yX7_save wsX7_save rmX7_save (gPc g sz (List.flatten [kMo g a_mo a_ms a_mwas a_mtried a_msaved a_mpast a_mfar a_mdrift a_mline a_mtape a_mcommands m_changes m_thrown m_errorAt m_failedAt m_answer m_isSaved m_lined m_taped m_here m_commandMany, kAr g a_ms 130 m_s, kAr g a_msaved 130 m_saved]) [.ref (a_mo 0)]) (gQi3 post (fun u1 u2 u3 => gB g (List.flatten [kMo g a_mo a_ms a_mwas a_mtried a_msaved a_mpast a_mfar a_mdrift a_mline a_mtape a_mcommands m_changes m_thrown m_errorAt m_failedAt m_answer m_isSaved m_lined m_taped m_here m_commandMany, kAr g a_ms 130 m_s, kAr g a_msaved 130 m_saved]) sz (List.flatten [kMo g a_mo a_ms a_mwas a_mtried a_msaved a_mpast a_mfar a_mdrift a_mline a_mtape a_mcommands m_changes u1 m_errorAt m_failedAt m_answer u2 m_lined m_taped m_here m_commandMany, kAr g a_ms 130 m_s, kAr g a_msaved 130 u3])) (va_A (List.flatten [kMo g a_mo a_ms a_mwas a_mtried a_msaved a_mpast a_mfar a_mdrift a_mline a_mtape a_mcommands m_changes m_thrown m_errorAt m_failedAt m_answer m_isSaved m_lined m_taped m_here m_commandMany, kAr g a_ms 130 m_s, kAr g a_msaved 130 m_saved]) sz)) 0 0 (va_A (List.flatten [kMo g a_mo a_ms a_mwas a_mtried a_msaved a_mpast a_mfar a_mdrift a_mline a_mtape a_mcommands m_changes m_thrown m_errorAt m_failedAt m_answer m_isSaved m_lined m_taped m_here m_commandMany, kAr g a_ms 130 m_s, kAr g a_msaved 130 m_saved]) sz) := by
  refine gOf (cc := cX7_save) (maxL := 1) (ret := (some .int)) (by decide) rfl (Nat.le_of_ble_eq_true rfl) ?_
  intro p e s m below meth c ls Q A hQ hx hb hr hml hts hown hlocks hE hA0 hsz hP hD hA hS hl
  have hl : lv_has ls 1 [(0, .ref (a_mo 0))] := hl
  refine lv_aload_n hx hb dX7_save_0 rfl (lv_at hl 0 rfl) ?_
  refine lv_iconst (v := 0) hx hb dX7_save_1 (by decide) ?_
  refine va_put (D := g.1) (ci := 11) (v := .int 0) (ty := .int) (C := RX7) (T := TX7) (N := 20) hx hb hts inX7_save_X7 tyX7 tyX7_ok nmX7 hown hE.1 hP hD hS 0 rfl rfl 8 (by decide) (gW hts 1 (.fieldLink RX7 47 "SnowDispatcherModel" "thrown" "I") rfl) (fun _ h9 => h9) rfl (by decide +kernel) rfl rfl (Nat.le_of_ble_eq_true rfl) dX7_save_2 (fun H locs hP hD hS => ?_)
  have hP : va_P g.1 vwCl (List.flatten [kMo g a_mo a_ms a_mwas a_mtried a_msaved a_mpast a_mfar a_mdrift a_mline a_mtape a_mcommands m_changes 0 m_errorAt m_failedAt m_answer m_isSaved m_lined m_taped m_here m_commandMany, kAr g a_ms 130 m_s, kAr g a_msaved 130 m_saved]) H := hP
  have hD : va_D A (List.flatten [kMo g a_mo a_ms a_mwas a_mtried a_msaved a_mpast a_mfar a_mdrift a_mline a_mtape a_mcommands m_changes 0 m_errorAt m_failedAt m_answer m_isSaved m_lined m_taped m_here m_commandMany, kAr g a_ms 130 m_s, kAr g a_msaved 130 m_saved]) := hD
  refine lv_aload_n hx hb dX7_save_5 rfl (lv_at hl 0 rfl) ?_
  refine va_get (D := g.1) (ci := 11) (v := .ref (a_ms 0)) (C := RX7) (T := TX7) (N := 20) hx hb hts inX7_save_X7 hown hE.1 hP 0 rfl rfl 0 (by decide) (gW hts 2 (.fieldLink RX7 9 "SnowDispatcherModel" "s" "[I") rfl) (fun _ h9 => h9) rfl dX7_save_6 ?_
  refine lv_iconst (v := 0) hx hb dX7_save_9 (by decide) ?_
  refine lv_aload_n hx hb dX7_save_10 rfl (lv_at hl 0 rfl) ?_
  refine va_get (D := g.1) (ci := 11) (v := .ref (a_msaved 0)) (C := RX7) (T := TX7) (N := 20) hx hb hts inX7_save_X7 hown hE.1 hP 0 rfl rfl 3 (by decide) (gW hts 3 (.fieldLink RX7 19 "SnowDispatcherModel" "saved" "[I") rfl) (fun _ h9 => h9) rfl dX7_save_11 ?_
  refine lv_iconst (v := 0) hx hb dX7_save_14 (by decide) ?_
  refine gCv1 (gRunS (As := [.ref (a_ms 0), .int 0, .ref (a_msaved 0), .int 0]) (rest := []) ⟨hx, hb, hml, hown, hts⟩ (ctX7_copies l g a_ms a_msaved _ 130 m_s 130 m_saved 0 0 hw) (va_cwS 4 hts gX7_save_X7_copies rfl rfl rfl (by decide +kernel) ⟨Nat.le_of_ble_eq_true rfl, Nat.le_of_ble_eq_true rfl⟩) hE (gSub hP [1, 2]) (gDSub hD [1, 2] rfl) rfl rfl hl.1 rfl (lv_room (Nat.le_of_ble_eq_true rfl)) dX7_save_15 ⟨Nat.le_of_ble_eq_true rfl, Nat.le_of_ble_eq_true rfl⟩) hP hD hS hA [1, 2] rfl (fun _ => rfl) rfl (fun m_saved_v1 H locs hw hP hD hS => ?_)
  have hP : va_P g.1 vwCl (List.flatten [kMo g a_mo a_ms a_mwas a_mtried a_msaved a_mpast a_mfar a_mdrift a_mline a_mtape a_mcommands m_changes 0 m_errorAt m_failedAt m_answer m_isSaved m_lined m_taped m_here m_commandMany, kAr g a_ms 130 m_s, kAr g a_msaved 130 m_saved_v1]) H := hP
  have hD : va_D A (List.flatten [kMo g a_mo a_ms a_mwas a_mtried a_msaved a_mpast a_mfar a_mdrift a_mline a_mtape a_mcommands m_changes 0 m_errorAt m_failedAt m_answer m_isSaved m_lined m_taped m_here m_commandMany, kAr g a_ms 130 m_s, kAr g a_msaved 130 m_saved_v1]) := hD
  refine lv_aload_n hx hb dX7_save_18 rfl (lv_at hl 0 rfl) ?_
  refine lv_iconst (v := 1) hx hb dX7_save_19 (by decide) ?_
  refine va_put (D := g.1) (ci := 11) (v := .int 1) (ty := .boolean) (C := RX7) (T := TX7) (N := 20) hx hb hts inX7_save_X7 tyX7 tyX7_ok nmX7 hown hE.1 hP hD hS 0 rfl rfl 12 (by decide) (gW hts 4 (.fieldLink RX7 264 "SnowDispatcherModel" "isSaved" "Z") rfl) (fun _ h9 => h9) rfl (by decide +kernel) rfl rfl (Nat.le_of_ble_eq_true rfl) dX7_save_20 (fun H locs hP hD hS => ?_)
  have hP : va_P g.1 vwCl (List.flatten [kMo g a_mo a_ms a_mwas a_mtried a_msaved a_mpast a_mfar a_mdrift a_mline a_mtape a_mcommands m_changes 0 m_errorAt m_failedAt m_answer 1 m_lined m_taped m_here m_commandMany, kAr g a_ms 130 m_s, kAr g a_msaved 130 m_saved_v1]) H := hP
  have hD : va_D A (List.flatten [kMo g a_mo a_ms a_mwas a_mtried a_msaved a_mpast a_mfar a_mdrift a_mline a_mtape a_mcommands m_changes 0 m_errorAt m_failedAt m_answer 1 m_lined m_taped m_here m_commandMany, kAr g a_ms 130 m_s, kAr g a_msaved 130 m_saved_v1]) := hD
  refine lv_aload_n hx hb dX7_save_23 rfl (lv_at hl 0 rfl) ?_
  refine va_get (D := g.1) (ci := 11) (v := .ref (a_ms 0)) (C := RX7) (T := TX7) (N := 20) hx hb hts inX7_save_X7 hown hE.1 hP 0 rfl rfl 0 (by decide) (gW hts 2 (.fieldLink RX7 9 "SnowDispatcherModel" "s" "[I") rfl) (fun _ h9 => h9) rfl dX7_save_24 ?_
  refine lv_iconst (v := 1) hx hb dX7_save_27 (by decide) ?_
  have h2 := hw.1
  have hw := hw.2
  refine va_iald hx hb hE.1 hP 1 0 rfl rfl h2 dX7_save_28 ?_
  subst hQ
  exact W.iret hx hb hr (gRi3 (c1 := 0) (c2 := 1) (c3 := m_saved_v1) (wf := _) hA0 hsz hw hP hD hS) hS.2.2 dX7_save_29
abbrev rmX7_restore : Room := { frames := 2, cells := 0, slots := 0, locals := 125 }
set_option maxRecDepth 20000 in
theorem inX7_restore_X7 : ∀ w ∈ wsX70, w ∈ wsX7_restore := by decide +kernel
set_option maxHeartbeats 4000000 in
set_option maxRecDepth 100000 in
theorem ctX7_restore (l : Launch) (g : GG) (a_mo : Nat → Nat) (a_ms : Nat → Nat) (a_mwas : Nat → Nat) (a_mtried : Nat → Nat) (a_msaved : Nat → Nat) (a_mpast : Nat → Nat) (a_mfar : Nat → Nat) (a_mdrift : Nat → Nat) (a_mline : Nat → Nat) (a_mtape : Nat → Nat) (a_mcommands : Nat → Nat) (sz : Nat) (m_changes : Int32) (m_thrown : Int32) (m_errorAt : Int32) (m_failedAt : Int32) (m_answer : Int32) (m_isSaved : Int32) (m_lined : Int32) (m_taped : Int32) (m_here : Int32) (m_commandMany : Int32) (m_s : Nat → Int32) (m_saved : Nat → Int32) {post : Int32 → Int32 → Int32 → (Nat → Int32) → Prop} (hw : wpX7_restore m_changes m_thrown m_isSaved m_s m_saved post) :
    Met l yX7_restore wsX7_restore rmX7_restore (gPc g sz (List.flatten [kMo g a_mo a_ms a_mwas a_mtried a_msaved a_mpast a_mfar a_mdrift a_mline a_mtape a_mcommands m_changes m_thrown m_errorAt m_failedAt m_answer m_isSaved m_lined m_taped m_here m_commandMany, kAr g a_ms 130 m_s, kAr g a_msaved 130 m_saved]) [.ref (a_mo 0)]) (gQi3 post (fun u1 u2 u3 => gB g (List.flatten [kMo g a_mo a_ms a_mwas a_mtried a_msaved a_mpast a_mfar a_mdrift a_mline a_mtape a_mcommands m_changes m_thrown m_errorAt m_failedAt m_answer m_isSaved m_lined m_taped m_here m_commandMany, kAr g a_ms 130 m_s, kAr g a_msaved 130 m_saved]) sz (List.flatten [kMo g a_mo a_ms a_mwas a_mtried a_msaved a_mpast a_mfar a_mdrift a_mline a_mtape a_mcommands u1 u2 m_errorAt m_failedAt m_answer m_isSaved m_lined m_taped m_here m_commandMany, kAr g a_ms 130 u3, kAr g a_msaved 130 m_saved])) (va_A (List.flatten [kMo g a_mo a_ms a_mwas a_mtried a_msaved a_mpast a_mfar a_mdrift a_mline a_mtape a_mcommands m_changes m_thrown m_errorAt m_failedAt m_answer m_isSaved m_lined m_taped m_here m_commandMany, kAr g a_ms 130 m_s, kAr g a_msaved 130 m_saved]) sz)) 0 0 (va_A (List.flatten [kMo g a_mo a_ms a_mwas a_mtried a_msaved a_mpast a_mfar a_mdrift a_mline a_mtape a_mcommands m_changes m_thrown m_errorAt m_failedAt m_answer m_isSaved m_lined m_taped m_here m_commandMany, kAr g a_ms 130 m_s, kAr g a_msaved 130 m_saved]) sz) := by
  refine gOf (cc := cX7_restore) (maxL := 1) (ret := (some .int)) (by decide) rfl (Nat.le_of_ble_eq_true rfl) ?_
  intro p e s m below meth c ls Q A hQ hx hb hr hml hts hown hlocks hE hA0 hsz hP hD hA hS hl
  have hl : lv_has ls 1 [(0, .ref (a_mo 0))] := hl
  have J13 : ∀ (z1_13 : Int32) (m_changes_13 : Int32) (m_thrown_13 : Int32) (m_s_13 : Nat → Int32) (H : Heap) (locs : List Loc) (ls : Array Slot), wpX7_restore_L13 m_isSaved m_saved post z1_13 m_changes_13 m_thrown_13 m_s_13 → va_P g.1 vwCl (List.flatten [kMo g a_mo a_ms a_mwas a_mtried a_msaved a_mpast a_mfar a_mdrift a_mline a_mtape a_mcommands m_changes_13 m_thrown_13 m_errorAt m_failedAt m_answer m_isSaved m_lined m_taped m_here m_commandMany, kAr g a_ms 130 m_s_13, kAr g a_msaved 130 m_saved]) H → va_D A (List.flatten [kMo g a_mo a_ms a_mwas a_mtried a_msaved a_mpast a_mfar a_mdrift a_mline a_mtape a_mcommands m_changes_13 m_thrown_13 m_errorAt m_failedAt m_answer m_isSaved m_lined m_taped m_here m_commandMany, kAr g a_ms 130 m_s_13, kAr g a_msaved 130 m_saved]) → va_S A s.heap H locs → lv_has ls 1 [(0, .ref (a_mo 0))] → W p l e rmX7_restore s m (([.ref (a_mo 0)] : List Value).toArray) below meth c H locs 0 0 Q (F0 m 13 ls [.int z1_13, .ref (a_mo 0)]) := by
    intro z1_13 m_changes_13 m_thrown_13 m_s_13 H locs ls hw hP hD hS hl
    refine lv_iconst (v := 1) hx hb dX7_restore_13 (by decide) ?_
    refine gCi1 (gRunV (As := [.int z1_13, .int 1]) (rest := []) ⟨hx, hb, hml, hown, hts⟩ (ctX7_isThrown l g a_mo a_ms a_mwas a_mtried a_msaved a_mpast a_mfar a_mdrift a_mline a_mtape a_mcommands _ m_changes_13 m_thrown_13 m_errorAt m_failedAt m_answer m_isSaved m_lined m_taped m_here m_commandMany z1_13 1 hw) (cwV 2 hts gX7_restore_X7_isThrown rfl rfl rfl (by decide +kernel) ⟨Nat.le_of_ble_eq_true rfl, Nat.le_of_ble_eq_true rfl⟩) hE (gSub hP [0]) (gDSub hD [0] rfl) 0 11 rfl rfl rfl rfl rfl hl.1 rfl (lv_room (Nat.le_of_ble_eq_true rfl)) dX7_restore_14 ⟨Nat.le_of_ble_eq_true rfl, Nat.le_of_ble_eq_true rfl⟩) hP hD hS hA [0] rfl (fun _ => rfl) rfl (fun r1 m_thrown_v1 H locs hw hP hD hS => ?_)
    have hP : va_P g.1 vwCl (List.flatten [kMo g a_mo a_ms a_mwas a_mtried a_msaved a_mpast a_mfar a_mdrift a_mline a_mtape a_mcommands m_changes_13 m_thrown_v1 m_errorAt m_failedAt m_answer m_isSaved m_lined m_taped m_here m_commandMany, kAr g a_ms 130 m_s_13, kAr g a_msaved 130 m_saved]) H := hP
    have hD : va_D A (List.flatten [kMo g a_mo a_ms a_mwas a_mtried a_msaved a_mpast a_mfar a_mdrift a_mline a_mtape a_mcommands m_changes_13 m_thrown_v1 m_errorAt m_failedAt m_answer m_isSaved m_lined m_taped m_here m_commandMany, kAr g a_ms 130 m_s_13, kAr g a_msaved 130 m_saved]) := hD
    refine lv_if_eq (tgt := 22) hx hb dX7_restore_17 (by decide) (fun c_17 => ?_) (fun c_17 => ?_)
    · have hw := hw.1 c_17
      refine lv_aload_n hx hb dX7_restore_22 rfl (lv_at hl 0 rfl) ?_
      refine va_get (D := g.1) (ci := 11) (v := .ref (a_msaved 0)) (C := RX7) (T := TX7) (N := 20) hx hb hts inX7_restore_X7 hown hE.1 hP 0 rfl rfl 3 (by decide) (gW hts 2 (.fieldLink RX7 19 "SnowDispatcherModel" "saved" "[I") rfl) (fun _ h9 => h9) rfl dX7_restore_23 ?_
      refine lv_iconst (v := 0) hx hb dX7_restore_26 (by decide) ?_
      refine lv_aload_n hx hb dX7_restore_27 rfl (lv_at hl 0 rfl) ?_
      refine va_get (D := g.1) (ci := 11) (v := .ref (a_ms 0)) (C := RX7) (T := TX7) (N := 20) hx hb hts inX7_restore_X7 hown hE.1 hP 0 rfl rfl 0 (by decide) (gW hts 3 (.fieldLink RX7 9 "SnowDispatcherModel" "s" "[I") rfl) (fun _ h9 => h9) rfl dX7_restore_28 ?_
      refine lv_iconst (v := 0) hx hb dX7_restore_31 (by decide) ?_
      refine gCv1 (gRunS (As := [.ref (a_msaved 0), .int 0, .ref (a_ms 0), .int 0]) (rest := []) ⟨hx, hb, hml, hown, hts⟩ (ctX7_copies l g a_msaved a_ms _ 130 m_saved 130 m_s_13 0 0 hw) (va_cwS 4 hts gX7_restore_X7_copies rfl rfl rfl (by decide +kernel) ⟨Nat.le_of_ble_eq_true rfl, Nat.le_of_ble_eq_true rfl⟩) hE (gSub hP [2, 1]) (gDSub hD [2, 1] rfl) rfl rfl hl.1 rfl (lv_room (Nat.le_of_ble_eq_true rfl)) dX7_restore_32 ⟨Nat.le_of_ble_eq_true rfl, Nat.le_of_ble_eq_true rfl⟩) hP hD hS hA [2, 1] rfl (fun _ => rfl) rfl (fun m_s_v2 H locs hw hP hD hS => ?_)
      have hP : va_P g.1 vwCl (List.flatten [kMo g a_mo a_ms a_mwas a_mtried a_msaved a_mpast a_mfar a_mdrift a_mline a_mtape a_mcommands m_changes_13 m_thrown_v1 m_errorAt m_failedAt m_answer m_isSaved m_lined m_taped m_here m_commandMany, kAr g a_ms 130 m_s_v2, kAr g a_msaved 130 m_saved]) H := hP
      have hD : va_D A (List.flatten [kMo g a_mo a_ms a_mwas a_mtried a_msaved a_mpast a_mfar a_mdrift a_mline a_mtape a_mcommands m_changes_13 m_thrown_v1 m_errorAt m_failedAt m_answer m_isSaved m_lined m_taped m_here m_commandMany, kAr g a_ms 130 m_s_v2, kAr g a_msaved 130 m_saved]) := hD
      refine lv_aload_n hx hb dX7_restore_35 rfl (lv_at hl 0 rfl) ?_
      refine lv_iconst (v := 0) hx hb dX7_restore_36 (by decide) ?_
      refine va_put (D := g.1) (ci := 11) (v := .int 0) (ty := .int) (C := RX7) (T := TX7) (N := 20) hx hb hts inX7_restore_X7 tyX7 tyX7_ok nmX7 hown hE.1 hP hD hS 0 rfl rfl 7 (by decide) (gW hts 4 (.fieldLink RX7 54 "SnowDispatcherModel" "changes" "I") rfl) (fun _ h9 => h9) rfl (by decide +kernel) rfl rfl (Nat.le_of_ble_eq_true rfl) dX7_restore_37 (fun H locs hP hD hS => ?_)
      have hP : va_P g.1 vwCl (List.flatten [kMo g a_mo a_ms a_mwas a_mtried a_msaved a_mpast a_mfar a_mdrift a_mline a_mtape a_mcommands 0 m_thrown_v1 m_errorAt m_failedAt m_answer m_isSaved m_lined m_taped m_here m_commandMany, kAr g a_ms 130 m_s_v2, kAr g a_msaved 130 m_saved]) H := hP
      have hD : va_D A (List.flatten [kMo g a_mo a_ms a_mwas a_mtried a_msaved a_mpast a_mfar a_mdrift a_mline a_mtape a_mcommands 0 m_thrown_v1 m_errorAt m_failedAt m_answer m_isSaved m_lined m_taped m_here m_commandMany, kAr g a_ms 130 m_s_v2, kAr g a_msaved 130 m_saved]) := hD
      refine lv_aload_n hx hb dX7_restore_40 rfl (lv_at hl 0 rfl) ?_
      refine va_get (D := g.1) (ci := 11) (v := .ref (a_ms 0)) (C := RX7) (T := TX7) (N := 20) hx hb hts inX7_restore_X7 hown hE.1 hP 0 rfl rfl 0 (by decide) (gW hts 3 (.fieldLink RX7 9 "SnowDispatcherModel" "s" "[I") rfl) (fun _ h9 => h9) rfl dX7_restore_41 ?_
      refine lv_iconst (v := 1) hx hb dX7_restore_44 (by decide) ?_
      have h3 := hw.1
      have hw := hw.2
      refine va_iald hx hb hE.1 hP 1 0 rfl rfl h3 dX7_restore_45 ?_
      subst hQ
      exact W.iret hx hb hr (gRi3 (c1 := 0) (c2 := m_thrown_v1) (c3 := m_s_v2) (wf := _) hA0 hsz hw hP hD hS) hS.2.2 dX7_restore_46
    · have hw := hw.2 c_17
      refine lv_iconst (v := 0) hx hb dX7_restore_20 (by decide) ?_
      subst hQ
      exact W.iret hx hb hr (gRi3 (c1 := m_changes_13) (c2 := m_thrown_v1) (c3 := m_s_13) (wf := _) hA0 hsz hw hP hD hS) hS.2.2 dX7_restore_21
  refine lv_aload_n hx hb dX7_restore_0 rfl (lv_at hl 0 rfl) ?_
  refine lv_aload_n hx hb dX7_restore_1 rfl (lv_at hl 0 rfl) ?_
  refine va_get (D := g.1) (ci := 11) (v := .int m_isSaved) (C := RX7) (T := TX7) (N := 20) hx hb hts inX7_restore_X7 hown hE.1 hP 0 rfl rfl 12 (by decide) (gW hts 1 (.fieldLink RX7 264 "SnowDispatcherModel" "isSaved" "Z") rfl) (fun _ h9 => h9) rfl dX7_restore_2 ?_
  refine lv_if_ne (tgt := 12) hx hb dX7_restore_5 (by decide) (fun c_5 => ?_) (fun c_5 => ?_)
  · have hw := hw.1 c_5
    refine lv_iconst (v := 0) hx hb dX7_restore_12 (by decide) ?_
    exact J13 0 m_changes m_thrown m_s _ _ _ hw hP hD hS (lv_sub hl [0] rfl)
  · have hw := hw.2 c_5
    refine lv_iconst (v := 1) hx hb dX7_restore_8 (by decide) ?_
    refine lv_goto (tgt := 13) hx hb dX7_restore_9 (by decide) ?_
    exact J13 1 m_changes m_thrown m_s _ _ _ hw hP hD hS (lv_sub hl [0] rfl)
