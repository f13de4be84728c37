/-! contracts: by program -/
abbrev rmX7_isWord : Room := { frames := 5, cells := 0, slots := 0, locals := 189 }
set_option maxRecDepth 20000 in
theorem inX7_isWord_X7 : ∀ w ∈ wsX70, w ∈ wsX7_isWord := by decide +kernel
set_option maxHeartbeats 4000000 in
set_option maxRecDepth 100000 in
theorem ctX7_isWord (l : Launch) (g : GG) (t : GT) (a_mo : Nat → Nat) (a_ms : Nat → Nat) (a_mwas : Nat → Nat) (a_mtried : Nat → Nat) (a_msaved : Nat → Nat) (a_mpast : Nat → Nat) (a_mfar : Nat → Nat) (a_mdrift : Nat → Nat) (a_mline : Nat → Nat) (a_mtape : Nat → Nat) (a_mcommands : Nat → Nat) (sz : Nat) (m_changes : Int32) (m_thrown : Int32) (m_errorAt : Int32) (m_failedAt : Int32) (m_answer : Int32) (m_isSaved : Int32) (m_lined : Int32) (m_taped : Int32) (m_here : Int32) (m_commandMany : Int32) (m_tape : Nat → Int32) (k_su : Nat) (su_len : Nat) (su_txt : Nat → Int32) (hk_su : gIs k_su su_len su_txt) {post : Int32 → Int32 → Prop} (hw : wpX7_isWord su_len su_txt m_taped m_here m_tape post) :
    Met l yX7_isWord wsX7_isWord rmX7_isWord (gPX g t sz (List.flatten [kMo g a_mo a_ms a_mwas a_mtried a_msaved a_mpast a_mfar a_mdrift a_mline a_mtape a_mcommands m_changes m_thrown m_errorAt m_failedAt m_answer m_isSaved m_lined m_taped m_here m_commandMany, kAr g a_mtape 60 m_tape]) [.ref (a_mo 0), .ref (t.1 k_su)]) (gQi1 post (fun u1 => gB g (List.flatten [kMo g a_mo a_ms a_mwas a_mtried a_msaved a_mpast a_mfar a_mdrift a_mline a_mtape a_mcommands m_changes m_thrown m_errorAt m_failedAt m_answer m_isSaved m_lined m_taped m_here m_commandMany, kAr g a_mtape 60 m_tape]) sz (List.flatten [kMo g a_mo a_ms a_mwas a_mtried a_msaved a_mpast a_mfar a_mdrift a_mline a_mtape a_mcommands m_changes m_thrown m_errorAt m_failedAt m_answer m_isSaved m_lined m_taped u1 m_commandMany, kAr g a_mtape 60 m_tape])) (va_A (List.flatten [kMo g a_mo a_ms a_mwas a_mtried a_msaved a_mpast a_mfar a_mdrift a_mline a_mtape a_mcommands m_changes m_thrown m_errorAt m_failedAt m_answer m_isSaved m_lined m_taped m_here m_commandMany, kAr g a_mtape 60 m_tape]) sz)) 0 0 (va_A (List.flatten [kMo g a_mo a_ms a_mwas a_mtried a_msaved a_mpast a_mfar a_mdrift a_mline a_mtape a_mcommands m_changes m_thrown m_errorAt m_failedAt m_answer m_isSaved m_lined m_taped m_here m_commandMany, kAr g a_mtape 60 m_tape]) sz) := by
  refine gOfX (cc := cX7_isWord) (maxL := 3) (ret := (some .boolean)) (by decide) rfl (Nat.le_of_ble_eq_true rfl) ?_
  intro p e s m below meth c ls Q A hQ hx hb hr hml hts hown hlocks hE hA0 hsz hP hD hA hS hl hX
  have hz_su := hX.str hk_su
  have hl : lv_has ls 3 [(0, .ref (a_mo 0)), (1, .ref (t.1 k_su))] := hl
  have L2 : ∀ (n : Nat) (x2_2 : Int32) (m_here_2 : Int32) (H : Heap) (locs : List Loc) (ls : Array Slot), wpX7_isWord_L2 su_len su_txt m_taped m_tape post n x2_2 m_here_2 → va_P g.1 vwCl (List.flatten [kMo g a_mo a_ms a_mwas a_mtried a_msaved a_mpast a_mfar a_mdrift a_mline a_mtape a_mcommands m_changes m_thrown m_errorAt m_failedAt m_answer m_isSaved m_lined m_taped m_here_2 m_commandMany, kAr g a_mtape 60 m_tape]) H → va_D A (List.flatten [kMo g a_mo a_ms a_mwas a_mtried a_msaved a_mpast a_mfar a_mdrift a_mline a_mtape a_mcommands m_changes m_thrown m_errorAt m_failedAt m_answer m_isSaved m_lined m_taped m_here_2 m_commandMany, kAr g a_mtape 60 m_tape]) → va_S A s.heap H locs → lv_has ls 3 [(0, .ref (a_mo 0)), (1, .ref (t.1 k_su)), (2, .int x2_2)] → W p l e rmX7_isWord s m (([.ref (a_mo 0), .ref (t.1 k_su)] : List Value).toArray) below meth c H locs 0 0 Q (F0 m 2 ls []) := by
    intro n_2
    induction n_2 with
    | zero => intro x2_2 m_here_2 H locs ls hw; exact False.elim hw
    | succ n_2 ih_2 =>
      intro x2_2 m_here_2 H locs ls hw hP hD hS hl
      refine lv_iload_n hx hb dX7_isWord_2 rfl (lv_at hl 2 rfl) ?_
      refine lv_aload_n hx hb dX7_isWord_3 rfl (lv_at hl 1 rfl) ?_
      refine gCi0 (gRunVr (As := []) (rest := [.int x2_2]) ⟨hx, hb, hml, hown, hts⟩ (ctJ0_length_8abf5 l g t _ k_su su_len su_txt hk_su hw) (cwV 0 hts gX7_isWord_J0_length_8abf5 rfl rfl rfl (by decide +kernel) ⟨Nat.le_of_ble_eq_true rfl, Nat.le_of_ble_eq_true rfl⟩) hE hX hS (gFree hD hS hA []) (gSub hP []) (gDSub hD [] rfl) (hz_su.recv hS) rfl rfl hl.1 rfl (lv_room (Nat.le_of_ble_eq_true rfl)) dX7_isWord_4 ⟨Nat.le_of_ble_eq_true rfl, Nat.le_of_ble_eq_true rfl⟩) hP hD hS hA [] rfl rfl rfl (fun r1 H locs hw hP hD hS => ?_)
      have hP : va_P g.1 vwCl (List.flatten [kMo g a_mo a_ms a_mwas a_mtried a_msaved a_mpast a_mfar a_mdrift a_mline a_mtape a_mcommands m_changes m_thrown m_errorAt m_failedAt m_answer m_isSaved m_lined m_taped m_here_2 m_commandMany, kAr g a_mtape 60 m_tape]) H := hP
      have hD : va_D A (List.flatten [kMo g a_mo a_ms a_mwas a_mtried a_msaved a_mpast a_mfar a_mdrift a_mline a_mtape a_mcommands m_changes m_thrown m_errorAt m_failedAt m_answer m_isSaved m_lined m_taped m_here_2 m_commandMany, kAr g a_mtape 60 m_tape]) := hD
      refine lv_icmp_ge (tgt := 30) hx hb dX7_isWord_7 (by decide) (fun c_7 => ?_) (fun c_7 => ?_)
      · have hw := hw.1 c_7
        refine lv_iconst (v := 1) hx hb dX7_isWord_30 (by decide) ?_
        subst hQ
        exact W.zret (ty := .boolean) hx hb hr (by decide) (gRi1 (c1 := m_here_2) (wf := _) hA0 hsz hw hP hD hS) hS.2.2 dX7_isWord_31
      · have hw := hw.2 c_7
        refine lv_aload_n hx hb dX7_isWord_10 rfl (lv_at hl 0 rfl) ?_
        refine lv_aload_n hx hb dX7_isWord_11 rfl (lv_at hl 1 rfl) ?_
        refine lv_iload_n hx hb dX7_isWord_12 rfl (lv_at hl 2 rfl) ?_
        refine gCi0 (gRunVr (As := [.int x2_2]) (rest := [.ref (a_mo 0)]) ⟨hx, hb, hml, hown, hts⟩ (ctJ0_charAt_5068e l g t _ k_su su_len su_txt hk_su x2_2 hw) (cwV 1 hts gX7_isWord_J0_charAt_5068e rfl rfl rfl (by decide +kernel) ⟨Nat.le_of_ble_eq_true rfl, Nat.le_of_ble_eq_true rfl⟩) hE hX hS (gFree hD hS hA []) (gSub hP []) (gDSub hD [] rfl) (hz_su.recv hS) rfl rfl hl.1 rfl (lv_room (Nat.le_of_ble_eq_true rfl)) dX7_isWord_13 ⟨Nat.le_of_ble_eq_true rfl, Nat.le_of_ble_eq_true rfl⟩) hP hD hS hA [] rfl rfl rfl (fun r2 H locs hw hP hD hS => ?_)
        have hP : va_P g.1 vwCl (List.flatten [kMo g a_mo a_ms a_mwas a_mtried a_msaved a_mpast a_mfar a_mdrift a_mline a_mtape a_mcommands m_changes m_thrown m_errorAt m_failedAt m_answer m_isSaved m_lined m_taped m_here_2 m_commandMany, kAr g a_mtape 60 m_tape]) H := hP
        have hD : va_D A (List.flatten [kMo g a_mo a_ms a_mwas a_mtried a_msaved a_mpast a_mfar a_mdrift a_mline a_mtape a_mcommands m_changes m_thrown m_errorAt m_failedAt m_answer m_isSaved m_lined m_taped m_here_2 m_commandMany, kAr g a_mtape 60 m_tape]) := hD
        refine gCi1 (gRunV (As := [.int r2]) (rest := []) ⟨hx, hb, hml, hown, hts⟩ (ctX7_isSign l g a_mo a_ms a_mwas a_mtried a_msaved a_mpast a_mfar a_mdrift a_mline a_mtape a_mcommands _ m_changes m_thrown m_errorAt m_failedAt m_answer m_isSaved m_lined m_taped m_here_2 m_commandMany m_tape r2 hw) (cwV 1 hts gX7_isWord_X7_isSign rfl rfl rfl (by decide +kernel) ⟨Nat.le_of_ble_eq_true rfl, Nat.le_of_ble_eq_true rfl⟩) hE (gSub hP [0, 1]) (gDSub hD [0, 1] rfl) 0 11 rfl rfl rfl rfl rfl hl.1 rfl (lv_room (Nat.le_of_ble_eq_true rfl)) dX7_isWord_16 ⟨Nat.le_of_ble_eq_true rfl, Nat.le_of_ble_eq_true rfl⟩) hP hD hS hA [0, 1] rfl (fun _ => rfl) rfl (fun r3 m_here_v3 H locs hw hP hD hS => ?_)
        have hP : va_P g.1 vwCl (List.flatten [kMo g a_mo a_ms a_mwas a_mtried a_msaved a_mpast a_mfar a_mdrift a_mline a_mtape a_mcommands m_changes m_thrown m_errorAt m_failedAt m_answer m_isSaved m_lined m_taped m_here_v3 m_commandMany, kAr g a_mtape 60 m_tape]) H := hP
        have hD : va_D A (List.flatten [kMo g a_mo a_ms a_mwas a_mtried a_msaved a_mpast a_mfar a_mdrift a_mline a_mtape a_mcommands m_changes m_thrown m_errorAt m_failedAt m_answer m_isSaved m_lined m_taped m_here_v3 m_commandMany, kAr g a_mtape 60 m_tape]) := hD
        refine lv_if_ne (tgt := 24) hx hb dX7_isWord_19 (by decide) (fun c_19 => ?_) (fun c_19 => ?_)
        · have hw := hw.1 c_19
          refine lv_iinc (v := (x2_2 + 1)) (lv' := [(2, .int (x2_2 + 1)), (0, .ref (a_mo 0)), (1, .ref (t.1 k_su))]) hx hb dX7_isWord_24 hl (k := 2) rfl rfl (by decide) rfl (fun ls hl => ?_)
          refine lv_goto (tgt := 2) hx hb dX7_isWord_27 (by decide) ?_
          exact ih_2 (x2_2 + 1) m_here_v3 _ _ _ hw hP hD hS (lv_sub hl [1, 2, 0] rfl)
        · have hw := hw.2 c_19
          refine lv_iconst (v := 0) hx hb dX7_isWord_22 (by decide) ?_
          subst hQ
          exact W.zret (ty := .boolean) hx hb hr (by decide) (gRi1 (c1 := m_here_v3) (wf := _) hA0 hsz hw hP hD hS) hS.2.2 dX7_isWord_23
  refine lv_iconst (v := 0) hx hb dX7_isWord_0 (by decide) ?_
  refine lv_istore_n (lv' := [(2, .int 0), (0, .ref (a_mo 0)), (1, .ref (t.1 k_su))]) hx hb dX7_isWord_1 rfl hl (by decide) rfl (fun ls hl => ?_)
  obtain ⟨n, hw⟩ := hw
  exact L2 n 0 m_here _ _ _ hw hP hD hS (lv_sub hl [1, 2, 0] rfl)
abbrev rmX7_readsS : Room := { frames := 6, cells := 0, slots := 0, locals := 212 }
set_option maxRecDepth 20000 in
theorem inX7_readsS_X7 : ∀ w ∈ wsX70, w ∈ wsX7_readsS := by decide +kernel
set_option maxHeartbeats 4000000 in
set_option maxRecDepth 100000 in
theorem ctX7_readsS (l : Launch) (g : GG) (t : GT) (a_mo : Nat → Nat) (a_ms : Nat → Nat) (a_mwas : Nat → Nat) (a_mtried : Nat → Nat) (a_msaved : Nat → Nat) (a_mpast : Nat → Nat) (a_mfar : Nat → Nat) (a_mdrift : Nat → Nat) (a_mline : Nat → Nat) (a_mtape : Nat → Nat) (a_mcommands : Nat → Nat) (sz : Nat) (m_changes : Int32) (m_thrown : Int32) (m_errorAt : Int32) (m_failedAt : Int32) (m_answer : Int32) (m_isSaved : Int32) (m_lined : Int32) (m_taped : Int32) (m_here : Int32) (m_commandMany : Int32) (m_tape : Nat → Int32) (m_commands : Nat → Int32) (x1 : Int32) {post : Int32 → Int32 → (Nat → Int32) → Prop} (hw : wpX7_readsS x1 m_taped m_here m_tape m_commands post) :
    Met l yX7_readsS wsX7_readsS rmX7_readsS (gPX g t sz (List.flatten [kMo g a_mo a_ms a_mwas a_mtried a_msaved a_mpast a_mfar a_mdrift a_mline a_mtape a_mcommands m_changes m_thrown m_errorAt m_failedAt m_answer m_isSaved m_lined m_taped m_here m_commandMany, kAr g a_mtape 60 m_tape, kAr g a_mcommands 155 m_commands]) [.ref (a_mo 0), .int x1]) (gQi2 post (fun u1 u2 => gB g (List.flatten [kMo g a_mo a_ms a_mwas a_mtried a_msaved a_mpast a_mfar a_mdrift a_mline a_mtape a_mcommands m_changes m_thrown m_errorAt m_failedAt m_answer m_isSaved m_lined m_taped m_here m_commandMany, kAr g a_mtape 60 m_tape, kAr g a_mcommands 155 m_commands]) sz (List.flatten [kMo g a_mo a_ms a_mwas a_mtried a_msaved a_mpast a_mfar a_mdrift a_mline a_mtape a_mcommands m_changes m_thrown m_errorAt m_failedAt m_answer m_isSaved m_lined m_taped u1 m_commandMany, kAr g a_mtape 60 m_tape, kAr g a_mcommands 155 u2])) (va_A (List.flatten [kMo g a_mo a_ms a_mwas a_mtried a_msaved a_mpast a_mfar a_mdrift a_mline a_mtape a_mcommands m_changes m_thrown m_errorAt m_failedAt m_answer m_isSaved m_lined m_taped m_here m_commandMany, kAr g a_mtape 60 m_tape, kAr g a_mcommands 155 m_commands]) sz)) 0 0 (va_A (List.flatten [kMo g a_mo a_ms a_mwas a_mtried a_msaved a_mpast a_mfar a_mdrift a_mline a_mtape a_mcommands m_changes m_thrown m_errorAt m_failedAt m_answer m_isSaved m_lined m_taped m_here m_commandMany, kAr g a_mtape 60 m_tape, kAr g a_mcommands 155 m_commands]) sz) := by
  refine gOfX (cc := cX7_readsS) (maxL := 2) (ret := (some .boolean)) (by decide) rfl (Nat.le_of_ble_eq_true rfl) ?_
  intro p e s m below meth c ls Q A hQ hx hb hr hml hts hown hlocks hE hA0 hsz hP hD hA hS hl hX
  have hl : lv_has ls 2 [(0, .ref (a_mo 0)), (1, .int x1)] := hl
  refine lv_aload_n hx hb dX7_readsS_0 rfl (lv_at hl 0 rfl) ?_
  refine lv_bipush (v := 116) hx hb dX7_readsS_1 (by decide) ?_
  refine gCi1 (gRunV (As := [.int 116]) (rest := []) ⟨hx, hb, hml, hown, hts⟩ (ctX7_isSign l g a_mo a_ms a_mwas a_mtried a_msaved a_mpast a_mfar a_mdrift a_mline a_mtape a_mcommands _ m_changes m_thrown m_errorAt m_failedAt m_answer m_isSaved m_lined m_taped m_here m_commandMany m_tape 116 hw) (cwV 1 hts gX7_readsS_X7_isSign rfl rfl rfl (by decide +kernel) ⟨Nat.le_of_ble_eq_true rfl, Nat.le_of_ble_eq_true rfl⟩) hE (gSub hP [0, 1]) (gDSub hD [0, 1] rfl) 0 11 rfl rfl rfl rfl rfl hl.1 rfl (lv_room (Nat.le_of_ble_eq_true rfl)) dX7_readsS_3 ⟨Nat.le_of_ble_eq_true rfl, Nat.le_of_ble_eq_true rfl⟩) hP hD hS hA [0, 1] rfl (fun _ => rfl) rfl (fun r1 m_here_v1 H locs hw hP hD hS => ?_)
  have hP : va_P g.1 vwCl (List.flatten [kMo g a_mo a_ms a_mwas a_mtried a_msaved a_mpast a_mfar a_mdrift a_mline a_mtape a_mcommands m_changes m_thrown m_errorAt m_failedAt m_answer m_isSaved m_lined m_taped m_here_v1 m_commandMany, kAr g a_mtape 60 m_tape, kAr g a_mcommands 155 m_commands]) H := hP
  have hD : va_D A (List.flatten [kMo g a_mo a_ms a_mwas a_mtried a_msaved a_mpast a_mfar a_mdrift a_mline a_mtape a_mcommands m_changes m_thrown m_errorAt m_failedAt m_answer m_isSaved m_lined m_taped m_here_v1 m_commandMany, kAr g a_mtape 60 m_tape, kAr g a_mcommands 155 m_commands]) := hD
  refine lv_if_eq (tgt := 85) hx hb dX7_readsS_6 (by decide) (fun c_6 => ?_) (fun c_6 => ?_)
  · have hw := hw.1 c_6
    refine lv_aload_n hx hb dX7_readsS_85 rfl (lv_at hl 0 rfl) ?_
    refine lv_bipush (v := 97) hx hb dX7_readsS_86 (by decide) ?_
    refine gCi1 (gRunV (As := [.int 97]) (rest := []) ⟨hx, hb, hml, hown, hts⟩ (ctX7_isSign l g a_mo a_ms a_mwas a_mtried a_msaved a_mpast a_mfar a_mdrift a_mline a_mtape a_mcommands _ m_changes m_thrown m_errorAt m_failedAt m_answer m_isSaved m_lined m_taped m_here_v1 m_commandMany m_tape 97 hw) (cwV 1 hts gX7_readsS_X7_isSign rfl rfl rfl (by decide +kernel) ⟨Nat.le_of_ble_eq_true rfl, Nat.le_of_ble_eq_true rfl⟩) hE (gSub hP [0, 1]) (gDSub hD [0, 1] rfl) 0 11 rfl rfl rfl rfl rfl hl.1 rfl (lv_room (Nat.le_of_ble_eq_true rfl)) dX7_readsS_88 ⟨Nat.le_of_ble_eq_true rfl, Nat.le_of_ble_eq_true rfl⟩) hP hD hS hA [0, 1] rfl (fun _ => rfl) rfl (fun r2 m_here_v2 H locs hw hP hD hS => ?_)
    have hP : va_P g.1 vwCl (List.flatten [kMo g a_mo a_ms a_mwas a_mtried a_msaved a_mpast a_mfar a_mdrift a_mline a_mtape a_mcommands m_changes m_thrown m_errorAt m_failedAt m_answer m_isSaved m_lined m_taped m_here_v2 m_commandMany, kAr g a_mtape 60 m_tape, kAr g a_mcommands 155 m_commands]) H := hP
    have hD : va_D A (List.flatten [kMo g a_mo a_ms a_mwas a_mtried a_msaved a_mpast a_mfar a_mdrift a_mline a_mtape a_mcommands m_changes m_thrown m_errorAt m_failedAt m_answer m_isSaved m_lined m_taped m_here_v2 m_commandMany, kAr g a_mtape 60 m_tape, kAr g a_mcommands 155 m_commands]) := hD
    refine lv_if_eq (tgt := 128) hx hb dX7_readsS_91 (by decide) (fun c_91 => ?_) (fun c_91 => ?_)
    · have hw := hw.1 c_91
      refine lv_aload_n hx hb dX7_readsS_128 rfl (lv_at hl 0 rfl) ?_
      refine va_get (D := g.1) (ci := 11) (v := .ref (a_mcommands 0)) (C := RX7) (T := TX7) (N := 20) hx hb hts inX7_readsS_X7 hown hE.1 hP 0 rfl rfl 16 (by decide) (gW hts 1 (.fieldLink RX7 44 "SnowDispatcherModel" "commands" "[I") rfl) (fun _ h9 => h9) rfl dX7_readsS_129 ?_
      refine lv_iload_n hx hb dX7_readsS_132 rfl (lv_at hl 1 rfl) ?_
      refine lv_bipush (v := 110) hx hb dX7_readsS_133 (by decide) ?_
      have h3 := hw.1
      have hw := hw.2
      refine va_iast hx hb hE.1 hP hD hS 2 0 rfl rfl h3 dX7_readsS_135 (fun H locs hP hD hS => ?_)
      have hP : va_P g.1 vwCl (List.flatten [kMo g a_mo a_ms a_mwas a_mtried a_msaved a_mpast a_mfar a_mdrift a_mline a_mtape a_mcommands m_changes m_thrown m_errorAt m_failedAt m_answer m_isSaved m_lined m_taped m_here_v2 m_commandMany, kAr g a_mtape 60 m_tape, kAr g a_mcommands 155 (upd m_commands x1.toNatClampNeg 110)]) H := hP
      have hD : va_D A (List.flatten [kMo g a_mo a_ms a_mwas a_mtried a_msaved a_mpast a_mfar a_mdrift a_mline a_mtape a_mcommands m_changes m_thrown m_errorAt m_failedAt m_answer m_isSaved m_lined m_taped m_here_v2 m_commandMany, kAr g a_mtape 60 m_tape, kAr g a_mcommands 155 (upd m_commands x1.toNatClampNeg 110)]) := hD
      refine lv_aload_n hx hb dX7_readsS_136 rfl (lv_at hl 0 rfl) ?_
      refine va_ldcS hx hb hown (hX.txt 11 rfl) dX7_readsS_137 ?_
      refine gCi1 (gRunVX (As := [.ref (t.1 11)]) (rest := []) ⟨hx, hb, hml, hown, hts⟩ (ctX7_isWord l g t a_mo a_ms a_mwas a_mtried a_msaved a_mpast a_mfar a_mdrift a_mline a_mtape a_mcommands _ m_changes m_thrown m_errorAt m_failedAt m_answer m_isSaved m_lined m_taped m_here_v2 m_commandMany m_tape 11 (gLen.getD 11 0) (fun j => (gByt.getD 11 []).getD j 0) ⟨by decide, rfl, rfl⟩ hw) (cwV 1 hts gX7_readsS_X7_isWord rfl rfl rfl (by decide +kernel) ⟨Nat.le_of_ble_eq_true rfl, Nat.le_of_ble_eq_true rfl⟩) hE hX hS (gFree hD hS hA [0, 1]) (gSub hP [0, 1]) (gDSub hD [0, 1] rfl) 0 11 rfl rfl rfl rfl rfl hl.1 rfl (lv_room (Nat.le_of_ble_eq_true rfl)) dX7_readsS_139 ⟨Nat.le_of_ble_eq_true rfl, Nat.le_of_ble_eq_true rfl⟩) hP hD hS hA [0, 1] rfl (fun _ => rfl) rfl (fun r4 m_here_v4 H locs hw hP hD hS => ?_)
      have hP : va_P g.1 vwCl (List.flatten [kMo g a_mo a_ms a_mwas a_mtried a_msaved a_mpast a_mfar a_mdrift a_mline a_mtape a_mcommands m_changes m_thrown m_errorAt m_failedAt m_answer m_isSaved m_lined m_taped m_here_v4 m_commandMany, kAr g a_mtape 60 m_tape, kAr g a_mcommands 155 (upd m_commands x1.toNatClampNeg 110)]) H := hP
      have hD : va_D A (List.flatten [kMo g a_mo a_ms a_mwas a_mtried a_msaved a_mpast a_mfar a_mdrift a_mline a_mtape a_mcommands m_changes m_thrown m_errorAt m_failedAt m_answer m_isSaved m_lined m_taped m_here_v4 m_commandMany, kAr g a_mtape 60 m_tape, kAr g a_mcommands 155 (upd m_commands x1.toNatClampNeg 110)]) := hD
      refine lv_if_eq (tgt := 160) hx hb dX7_readsS_142 (by decide) (fun c_142 => ?_) (fun c_142 => ?_)
      · have hw := hw.1 c_142
        refine lv_iconst (v := 0) hx hb dX7_readsS_160 (by decide) ?_
        subst hQ
        exact W.zret (ty := .boolean) hx hb hr (by decide) (gRi2 (c1 := m_here_v4) (c2 := (upd m_commands x1.toNatClampNeg 110)) (wf := _) hA0 hsz hw hP hD hS) hS.2.2 dX7_readsS_161
      · have hw := hw.2 c_142
        refine lv_aload_n hx hb dX7_readsS_145 rfl (lv_at hl 0 rfl) ?_
        refine lv_iconst (v := 1) hx hb dX7_readsS_146 (by decide) ?_
        refine lv_iload_n hx hb dX7_readsS_147 rfl (lv_at hl 1 rfl) ?_
        refine lv_iconst (v := 1) hx hb dX7_readsS_148 (by decide) ?_
        refine lv_iadd hx hb dX7_readsS_149 ?_
        refine gCi2 (gRunV (As := [.int 1, .int (x1 + 1)]) (rest := []) ⟨hx, hb, hml, hown, hts⟩ (ctX7_isNumber l g a_mo a_ms a_mwas a_mtried a_msaved a_mpast a_mfar a_mdrift a_mline a_mtape a_mcommands _ m_changes m_thrown m_errorAt m_failedAt m_answer m_isSaved m_lined m_taped m_here_v4 m_commandMany m_tape (upd m_commands x1.toNatClampNeg 110) 1 (x1 + 1) hw) (cwV 2 hts gX7_readsS_X7_isNumber rfl rfl rfl (by decide +kernel) ⟨Nat.le_of_ble_eq_true rfl, Nat.le_of_ble_eq_true rfl⟩) hE (gSub hP [0, 1, 2]) (gDSub hD [0, 1, 2] rfl) 0 11 rfl rfl rfl rfl rfl hl.1 rfl (lv_room (Nat.le_of_ble_eq_true rfl)) dX7_readsS_150 ⟨Nat.le_of_ble_eq_true rfl, Nat.le_of_ble_eq_true rfl⟩) hP hD hS hA [0, 1, 2] rfl (fun _ _ => rfl) rfl (fun r5 m_here_v5 m_commands_v5 H locs hw hP hD hS => ?_)
        have hP : va_P g.1 vwCl (List.flatten [kMo g a_mo a_ms a_mwas a_mtried a_msaved a_mpast a_mfar a_mdrift a_mline a_mtape a_mcommands m_changes m_thrown m_errorAt m_failedAt m_answer m_isSaved m_lined m_taped m_here_v5 m_commandMany, kAr g a_mtape 60 m_tape, kAr g a_mcommands 155 m_commands_v5]) H := hP
        have hD : va_D A (List.flatten [kMo g a_mo a_ms a_mwas a_mtried a_msaved a_mpast a_mfar a_mdrift a_mline a_mtape a_mcommands m_changes m_thrown m_errorAt m_failedAt m_answer m_isSaved m_lined m_taped m_here_v5 m_commandMany, kAr g a_mtape 60 m_tape, kAr g a_mcommands 155 m_commands_v5]) := hD
        refine lv_if_eq (tgt := 160) hx hb dX7_readsS_153 (by decide) (fun c_153 => ?_) (fun c_153 => ?_)
        · have hw := hw.1 c_153
          refine lv_iconst (v := 0) hx hb dX7_readsS_160 (by decide) ?_
          subst hQ
          exact W.zret (ty := .boolean) hx hb hr (by decide) (gRi2 (c1 := m_here_v5) (c2 := m_commands_v5) (wf := _) hA0 hsz hw hP hD hS) hS.2.2 dX7_readsS_161
        · have hw := hw.2 c_153
          refine lv_iconst (v := 1) hx hb dX7_readsS_156 (by decide) ?_
          refine lv_goto (tgt := 161) hx hb dX7_readsS_157 (by decide) ?_
          subst hQ
          exact W.zret (ty := .boolean) hx hb hr (by decide) (gRi2 (c1 := m_here_v5) (c2 := m_commands_v5) (wf := _) hA0 hsz hw hP hD hS) hS.2.2 dX7_readsS_161
    · have hw := hw.2 c_91
      refine lv_aload_n hx hb dX7_readsS_94 rfl (lv_at hl 0 rfl) ?_
      refine va_get (D := g.1) (ci := 11) (v := .ref (a_mcommands 0)) (C := RX7) (T := TX7) (N := 20) hx hb hts inX7_readsS_X7 hown hE.1 hP 0 rfl rfl 16 (by decide) (gW hts 1 (.fieldLink RX7 44 "SnowDispatcherModel" "commands" "[I") rfl) (fun _ h9 => h9) rfl dX7_readsS_95 ?_
      refine lv_iload_n hx hb dX7_readsS_98 rfl (lv_at hl 1 rfl) ?_
      refine lv_bipush (v := 83) hx hb dX7_readsS_99 (by decide) ?_
      have h6 := hw.1
      have hw := hw.2
      refine va_iast hx hb hE.1 hP hD hS 2 0 rfl rfl h6 dX7_readsS_101 (fun H locs hP hD hS => ?_)
      have hP : va_P g.1 vwCl (List.flatten [kMo g a_mo a_ms a_mwas a_mtried a_msaved a_mpast a_mfar a_mdrift a_mline a_mtape a_mcommands m_changes m_thrown m_errorAt m_failedAt m_answer m_isSaved m_lined m_taped m_here_v2 m_commandMany, kAr g a_mtape 60 m_tape, kAr g a_mcommands 155 (upd m_commands x1.toNatClampNeg 83)]) H := hP
      have hD : va_D A (List.flatten [kMo g a_mo a_ms a_mwas a_mtried a_msaved a_mpast a_mfar a_mdrift a_mline a_mtape a_mcommands m_changes m_thrown m_errorAt m_failedAt m_answer m_isSaved m_lined m_taped m_here_v2 m_commandMany, kAr g a_mtape 60 m_tape, kAr g a_mcommands 155 (upd m_commands x1.toNatClampNeg 83)]) := hD
      refine lv_aload_n hx hb dX7_readsS_102 rfl (lv_at hl 0 rfl) ?_
      refine va_ldcS hx hb hown (hX.txt 10 rfl) dX7_readsS_103 ?_
      refine gCi1 (gRunVX (As := [.ref (t.1 10)]) (rest := []) ⟨hx, hb, hml, hown, hts⟩ (ctX7_isWord l g t a_mo a_ms a_mwas a_mtried a_msaved a_mpast a_mfar a_mdrift a_mline a_mtape a_mcommands _ m_changes m_thrown m_errorAt m_failedAt m_answer m_isSaved m_lined m_taped m_here_v2 m_commandMany m_tape 10 (gLen.getD 10 0) (fun j => (gByt.getD 10 []).getD j 0) ⟨by decide, rfl, rfl⟩ hw) (cwV 1 hts gX7_readsS_X7_isWord rfl rfl rfl (by decide +kernel) ⟨Nat.le_of_ble_eq_true rfl, Nat.le_of_ble_eq_true rfl⟩) hE hX hS (gFree hD hS hA [0, 1]) (gSub hP [0, 1]) (gDSub hD [0, 1] rfl) 0 11 rfl rfl rfl rfl rfl hl.1 rfl (lv_room (Nat.le_of_ble_eq_true rfl)) dX7_readsS_105 ⟨Nat.le_of_ble_eq_true rfl, Nat.le_of_ble_eq_true rfl⟩) hP hD hS hA [0, 1] rfl (fun _ => rfl) rfl (fun r7 m_here_v7 H locs hw hP hD hS => ?_)
      have hP : va_P g.1 vwCl (List.flatten [kMo g a_mo a_ms a_mwas a_mtried a_msaved a_mpast a_mfar a_mdrift a_mline a_mtape a_mcommands m_changes m_thrown m_errorAt m_failedAt m_answer m_isSaved m_lined m_taped m_here_v7 m_commandMany, kAr g a_mtape 60 m_tape, kAr g a_mcommands 155 (upd m_commands x1.toNatClampNeg 83)]) H := hP
      have hD : va_D A (List.flatten [kMo g a_mo a_ms a_mwas a_mtried a_msaved a_mpast a_mfar a_mdrift a_mline a_mtape a_mcommands m_changes m_thrown m_errorAt m_failedAt m_answer m_isSaved m_lined m_taped m_here_v7 m_commandMany, kAr g a_mtape 60 m_tape, kAr g a_mcommands 155 (upd m_commands x1.toNatClampNeg 83)]) := hD
      refine lv_if_eq (tgt := 126) hx hb dX7_readsS_108 (by decide) (fun c_108 => ?_) (fun c_108 => ?_)
      · have hw := hw.1 c_108
        refine lv_iconst (v := 0) hx hb dX7_readsS_126 (by decide) ?_
        subst hQ
        exact W.zret (ty := .boolean) hx hb hr (by decide) (gRi2 (c1 := m_here_v7) (c2 := (upd m_commands x1.toNatClampNeg 83)) (wf := _) hA0 hsz hw hP hD hS) hS.2.2 dX7_readsS_127
      · have hw := hw.2 c_108
        refine lv_aload_n hx hb dX7_readsS_111 rfl (lv_at hl 0 rfl) ?_
        refine lv_iconst (v := 3) hx hb dX7_readsS_112 (by decide) ?_
        refine lv_iload_n hx hb dX7_readsS_113 rfl (lv_at hl 1 rfl) ?_
        refine lv_iconst (v := 1) hx hb dX7_readsS_114 (by decide) ?_
        refine lv_iadd hx hb dX7_readsS_115 ?_
        refine gCi2 (gRunV (As := [.int 3, .int (x1 + 1)]) (rest := []) ⟨hx, hb, hml, hown, hts⟩ (ctX7_isNumber l g a_mo a_ms a_mwas a_mtried a_msaved a_mpast a_mfar a_mdrift a_mline a_mtape a_mcommands _ m_changes m_thrown m_errorAt m_failedAt m_answer m_isSaved m_lined m_taped m_here_v7 m_commandMany m_tape (upd m_commands x1.toNatClampNeg 83) 3 (x1 + 1) hw) (cwV 2 hts gX7_readsS_X7_isNumber rfl rfl rfl (by decide +kernel) ⟨Nat.le_of_ble_eq_true rfl, Nat.le_of_ble_eq_true rfl⟩) hE (gSub hP [0, 1, 2]) (gDSub hD [0, 1, 2] rfl) 0 11 rfl rfl rfl rfl rfl hl.1 rfl (lv_room (Nat.le_of_ble_eq_true rfl)) dX7_readsS_116 ⟨Nat.le_of_ble_eq_true rfl, Nat.le_of_ble_eq_true rfl⟩) hP hD hS hA [0, 1, 2] rfl (fun _ _ => rfl) rfl (fun r8 m_here_v8 m_commands_v8 H locs hw hP hD hS => ?_)
        have hP : va_P g.1 vwCl (List.flatten [kMo g a_mo a_ms a_mwas a_mtried a_msaved a_mpast a_mfar a_mdrift a_mline a_mtape a_mcommands m_changes m_thrown m_errorAt m_failedAt m_answer m_isSaved m_lined m_taped m_here_v8 m_commandMany, kAr g a_mtape 60 m_tape, kAr g a_mcommands 155 m_commands_v8]) H := hP
        have hD : va_D A (List.flatten [kMo g a_mo a_ms a_mwas a_mtried a_msaved a_mpast a_mfar a_mdrift a_mline a_mtape a_mcommands m_changes m_thrown m_errorAt m_failedAt m_answer m_isSaved m_lined m_taped m_here_v8 m_commandMany, kAr g a_mtape 60 m_tape, kAr g a_mcommands 155 m_commands_v8]) := hD
        refine lv_if_eq (tgt := 126) hx hb dX7_readsS_119 (by decide) (fun c_119 => ?_) (fun c_119 => ?_)
        · have hw := hw.1 c_119
          refine lv_iconst (v := 0) hx hb dX7_readsS_126 (by decide) ?_
          subst hQ
          exact W.zret (ty := .boolean) hx hb hr (by decide) (gRi2 (c1 := m_here_v8) (c2 := m_commands_v8) (wf := _) hA0 hsz hw hP hD hS) hS.2.2 dX7_readsS_127
        · have hw := hw.2 c_119
          refine lv_iconst (v := 1) hx hb dX7_readsS_122 (by decide) ?_
          refine lv_goto (tgt := 127) hx hb dX7_readsS_123 (by decide) ?_
          subst hQ
          exact W.zret (ty := .boolean) hx hb hr (by decide) (gRi2 (c1 := m_here_v8) (c2 := m_commands_v8) (wf := _) hA0 hsz hw hP hD hS) hS.2.2 dX7_readsS_127
  · have hw := hw.2 c_6
    refine lv_aload_n hx hb dX7_readsS_9 rfl (lv_at hl 0 rfl) ?_
    refine va_ldcS hx hb hown (hX.txt 9 rfl) dX7_readsS_10 ?_
    refine gCi1 (gRunVX (As := [.ref (t.1 9)]) (rest := []) ⟨hx, hb, hml, hown, hts⟩ (ctX7_isWord l g t a_mo a_ms a_mwas a_mtried a_msaved a_mpast a_mfar a_mdrift a_mline a_mtape a_mcommands _ m_changes m_thrown m_errorAt m_failedAt m_answer m_isSaved m_lined m_taped m_here_v1 m_commandMany m_tape 9 (gLen.getD 9 0) (fun j => (gByt.getD 9 []).getD j 0) ⟨by decide, rfl, rfl⟩ hw) (cwV 1 hts gX7_readsS_X7_isWord rfl rfl rfl (by decide +kernel) ⟨Nat.le_of_ble_eq_true rfl, Nat.le_of_ble_eq_true rfl⟩) hE hX hS (gFree hD hS hA [0, 1]) (gSub hP [0, 1]) (gDSub hD [0, 1] rfl) 0 11 rfl rfl rfl rfl rfl hl.1 rfl (lv_room (Nat.le_of_ble_eq_true rfl)) dX7_readsS_12 ⟨Nat.le_of_ble_eq_true rfl, Nat.le_of_ble_eq_true rfl⟩) hP hD hS hA [0, 1] rfl (fun _ => rfl) rfl (fun r9 m_here_v9 H locs hw hP hD hS => ?_)
    have hP : va_P g.1 vwCl (List.flatten [kMo g a_mo a_ms a_mwas a_mtried a_msaved a_mpast a_mfar a_mdrift a_mline a_mtape a_mcommands m_changes m_thrown m_errorAt m_failedAt m_answer m_isSaved m_lined m_taped m_here_v9 m_commandMany, kAr g a_mtape 60 m_tape, kAr g a_mcommands 155 m_commands]) H := hP
    have hD : va_D A (List.flatten [kMo g a_mo a_ms a_mwas a_mtried a_msaved a_mpast a_mfar a_mdrift a_mline a_mtape a_mcommands m_changes m_thrown m_errorAt m_failedAt m_answer m_isSaved m_lined m_taped m_here_v9 m_commandMany, kAr g a_mtape 60 m_tape, kAr g a_mcommands 155 m_commands]) := hD
    refine lv_if_eq (tgt := 83) hx hb dX7_readsS_15 (by decide) (fun c_15 => ?_) (fun c_15 => ?_)
    · have hw := hw.1 c_15
      refine lv_iconst (v := 0) hx hb dX7_readsS_83 (by decide) ?_
      subst hQ
      exact W.zret (ty := .boolean) hx hb hr (by decide) (gRi2 (c1 := m_here_v9) (c2 := m_commands) (wf := _) hA0 hsz hw hP hD hS) hS.2.2 dX7_readsS_84
    · have hw := hw.2 c_15
      refine lv_aload_n hx hb dX7_readsS_18 rfl (lv_at hl 0 rfl) ?_
      refine lv_iconst (v := 1) hx hb dX7_readsS_19 (by decide) ?_
      refine lv_iload_n hx hb dX7_readsS_20 rfl (lv_at hl 1 rfl) ?_
      refine lv_iconst (v := 1) hx hb dX7_readsS_21 (by decide) ?_
      refine lv_iadd hx hb dX7_readsS_22 ?_
      refine gCi2 (gRunV (As := [.int 1, .int (x1 + 1)]) (rest := []) ⟨hx, hb, hml, hown, hts⟩ (ctX7_isNumber l g a_mo a_ms a_mwas a_mtried a_msaved a_mpast a_mfar a_mdrift a_mline a_mtape a_mcommands _ m_changes m_thrown m_errorAt m_failedAt m_answer m_isSaved m_lined m_taped m_here_v9 m_commandMany m_tape m_commands 1 (x1 + 1) hw) (cwV 2 hts gX7_readsS_X7_isNumber rfl rfl rfl (by decide +kernel) ⟨Nat.le_of_ble_eq_true rfl, Nat.le_of_ble_eq_true rfl⟩) hE (gSub hP [0, 1, 2]) (gDSub hD [0, 1, 2] rfl) 0 11 rfl rfl rfl rfl rfl hl.1 rfl (lv_room (Nat.le_of_ble_eq_true rfl)) dX7_readsS_23 ⟨Nat.le_of_ble_eq_true rfl, Nat.le_of_ble_eq_true rfl⟩) hP hD hS hA [0, 1, 2] rfl (fun _ _ => rfl) rfl (fun r10 m_here_v10 m_commands_v10 H locs hw hP hD hS => ?_)
      have hP : va_P g.1 vwCl (List.flatten [kMo g a_mo a_ms a_mwas a_mtried a_msaved a_mpast a_mfar a_mdrift a_mline a_mtape a_mcommands m_changes m_thrown m_errorAt m_failedAt m_answer m_isSaved m_lined m_taped m_here_v10 m_commandMany, kAr g a_mtape 60 m_tape, kAr g a_mcommands 155 m_commands_v10]) H := hP
      have hD : va_D A (List.flatten [kMo g a_mo a_ms a_mwas a_mtried a_msaved a_mpast a_mfar a_mdrift a_mline a_mtape a_mcommands m_changes m_thrown m_errorAt m_failedAt m_answer m_isSaved m_lined m_taped m_here_v10 m_commandMany, kAr g a_mtape 60 m_tape, kAr g a_mcommands 155 m_commands_v10]) := hD
      refine lv_if_eq (tgt := 83) hx hb dX7_readsS_26 (by decide) (fun c_26 => ?_) (fun c_26 => ?_)
      · have hw := hw.1 c_26
        refine lv_iconst (v := 0) hx hb dX7_readsS_83 (by decide) ?_
        subst hQ
        exact W.zret (ty := .boolean) hx hb hr (by decide) (gRi2 (c1 := m_here_v10) (c2 := m_commands_v10) (wf := _) hA0 hsz hw hP hD hS) hS.2.2 dX7_readsS_84
      · have hw := hw.2 c_26
        refine lv_aload_n hx hb dX7_readsS_29 rfl (lv_at hl 0 rfl) ?_
        refine lv_bipush (v := 32) hx hb dX7_readsS_30 (by decide) ?_
        refine gCi1 (gRunV (As := [.int 32]) (rest := []) ⟨hx, hb, hml, hown, hts⟩ (ctX7_isSign l g a_mo a_ms a_mwas a_mtried a_msaved a_mpast a_mfar a_mdrift a_mline a_mtape a_mcommands _ m_changes m_thrown m_errorAt m_failedAt m_answer m_isSaved m_lined m_taped m_here_v10 m_commandMany m_tape 32 hw) (cwV 1 hts gX7_readsS_X7_isSign rfl rfl rfl (by decide +kernel) ⟨Nat.le_of_ble_eq_true rfl, Nat.le_of_ble_eq_true rfl⟩) hE (gSub hP [0, 1]) (gDSub hD [0, 1] rfl) 0 11 rfl rfl rfl rfl rfl hl.1 rfl (lv_room (Nat.le_of_ble_eq_true rfl)) dX7_readsS_32 ⟨Nat.le_of_ble_eq_true rfl, Nat.le_of_ble_eq_true rfl⟩) hP hD hS hA [0, 1] rfl (fun _ => rfl) rfl (fun r11 m_here_v11 H locs hw hP hD hS => ?_)
        have hP : va_P g.1 vwCl (List.flatten [kMo g a_mo a_ms a_mwas a_mtried a_msaved a_mpast a_mfar a_mdrift a_mline a_mtape a_mcommands m_changes m_thrown m_errorAt m_failedAt m_answer m_isSaved m_lined m_taped m_here_v11 m_commandMany, kAr g a_mtape 60 m_tape, kAr g a_mcommands 155 m_commands_v10]) H := hP
        have hD : va_D A (List.flatten [kMo g a_mo a_ms a_mwas a_mtried a_msaved a_mpast a_mfar a_mdrift a_mline a_mtape a_mcommands m_changes m_thrown m_errorAt m_failedAt m_answer m_isSaved m_lined m_taped m_here_v11 m_commandMany, kAr g a_mtape 60 m_tape, kAr g a_mcommands 155 m_commands_v10]) := hD
        refine lv_if_eq (tgt := 83) hx hb dX7_readsS_35 (by decide) (fun c_35 => ?_) (fun c_35 => ?_)
        · have hw := hw.1 c_35
          refine lv_iconst (v := 0) hx hb dX7_readsS_83 (by decide) ?_
          subst hQ
          exact W.zret (ty := .boolean) hx hb hr (by decide) (gRi2 (c1 := m_here_v11) (c2 := m_commands_v10) (wf := _) hA0 hsz hw hP hD hS) hS.2.2 dX7_readsS_84
        · have hw := hw.2 c_35
          refine lv_aload_n hx hb dX7_readsS_38 rfl (lv_at hl 0 rfl) ?_
          refine lv_iconst (v := 1) hx hb dX7_readsS_39 (by decide) ?_
          refine lv_iload_n hx hb dX7_readsS_40 rfl (lv_at hl 1 rfl) ?_
          refine lv_iconst (v := 2) hx hb dX7_readsS_41 (by decide) ?_
          refine lv_iadd hx hb dX7_readsS_42 ?_
          refine gCi2 (gRunV (As := [.int 1, .int (x1 + 2)]) (rest := []) ⟨hx, hb, hml, hown, hts⟩ (ctX7_isNumber l g a_mo a_ms a_mwas a_mtried a_msaved a_mpast a_mfar a_mdrift a_mline a_mtape a_mcommands _ m_changes m_thrown m_errorAt m_failedAt m_answer m_isSaved m_lined m_taped m_here_v11 m_commandMany m_tape m_commands_v10 1 (x1 + 2) hw) (cwV 2 hts gX7_readsS_X7_isNumber rfl rfl rfl (by decide +kernel) ⟨Nat.le_of_ble_eq_true rfl, Nat.le_of_ble_eq_true rfl⟩) hE (gSub hP [0, 1, 2]) (gDSub hD [0, 1, 2] rfl) 0 11 rfl rfl rfl rfl rfl hl.1 rfl (lv_room (Nat.le_of_ble_eq_true rfl)) dX7_readsS_43 ⟨Nat.le_of_ble_eq_true rfl, Nat.le_of_ble_eq_true rfl⟩) hP hD hS hA [0, 1, 2] rfl (fun _ _ => rfl) rfl (fun r12 m_here_v12 m_commands_v12 H locs hw hP hD hS => ?_)
          have hP : va_P g.1 vwCl (List.flatten [kMo g a_mo a_ms a_mwas a_mtried a_msaved a_mpast a_mfar a_mdrift a_mline a_mtape a_mcommands m_changes m_thrown m_errorAt m_failedAt m_answer m_isSaved m_lined m_taped m_here_v12 m_commandMany, kAr g a_mtape 60 m_tape, kAr g a_mcommands 155 m_commands_v12]) H := hP
          have hD : va_D A (List.flatten [kMo g a_mo a_ms a_mwas a_mtried a_msaved a_mpast a_mfar a_mdrift a_mline a_mtape a_mcommands m_changes m_thrown m_errorAt m_failedAt m_answer m_isSaved m_lined m_taped m_here_v12 m_commandMany, kAr g a_mtape 60 m_tape, kAr g a_mcommands 155 m_commands_v12]) := hD
          refine lv_if_eq (tgt := 83) hx hb dX7_readsS_46 (by decide) (fun c_46 => ?_) (fun c_46 => ?_)
          · have hw := hw.1 c_46
            refine lv_iconst (v := 0) hx hb dX7_readsS_83 (by decide) ?_
            subst hQ
            exact W.zret (ty := .boolean) hx hb hr (by decide) (gRi2 (c1 := m_here_v12) (c2 := m_commands_v12) (wf := _) hA0 hsz hw hP hD hS) hS.2.2 dX7_readsS_84
          · have hw := hw.2 c_46
            refine lv_aload_n hx hb dX7_readsS_49 rfl (lv_at hl 0 rfl) ?_
            refine lv_bipush (v := 32) hx hb dX7_readsS_50 (by decide) ?_
            refine gCi1 (gRunV (As := [.int 32]) (rest := []) ⟨hx, hb, hml, hown, hts⟩ (ctX7_isSign l g a_mo a_ms a_mwas a_mtried a_msaved a_mpast a_mfar a_mdrift a_mline a_mtape a_mcommands _ m_changes m_thrown m_errorAt m_failedAt m_answer m_isSaved m_lined m_taped m_here_v12 m_commandMany m_tape 32 hw) (cwV 1 hts gX7_readsS_X7_isSign rfl rfl rfl (by decide +kernel) ⟨Nat.le_of_ble_eq_true rfl, Nat.le_of_ble_eq_true rfl⟩) hE (gSub hP [0, 1]) (gDSub hD [0, 1] rfl) 0 11 rfl rfl rfl rfl rfl hl.1 rfl (lv_room (Nat.le_of_ble_eq_true rfl)) dX7_readsS_52 ⟨Nat.le_of_ble_eq_true rfl, Nat.le_of_ble_eq_true rfl⟩) hP hD hS hA [0, 1] rfl (fun _ => rfl) rfl (fun r13 m_here_v13 H locs hw hP hD hS => ?_)
            have hP : va_P g.1 vwCl (List.flatten [kMo g a_mo a_ms a_mwas a_mtried a_msaved a_mpast a_mfar a_mdrift a_mline a_mtape a_mcommands m_changes m_thrown m_errorAt m_failedAt m_answer m_isSaved m_lined m_taped m_here_v13 m_commandMany, kAr g a_mtape 60 m_tape, kAr g a_mcommands 155 m_commands_v12]) H := hP
            have hD : va_D A (List.flatten [kMo g a_mo a_ms a_mwas a_mtried a_msaved a_mpast a_mfar a_mdrift a_mline a_mtape a_mcommands m_changes m_thrown m_errorAt m_failedAt m_answer m_isSaved m_lined m_taped m_here_v13 m_commandMany, kAr g a_mtape 60 m_tape, kAr g a_mcommands 155 m_commands_v12]) := hD
            refine lv_if_eq (tgt := 83) hx hb dX7_readsS_55 (by decide) (fun c_55 => ?_) (fun c_55 => ?_)
            · have hw := hw.1 c_55
              refine lv_iconst (v := 0) hx hb dX7_readsS_83 (by decide) ?_
              subst hQ
              exact W.zret (ty := .boolean) hx hb hr (by decide) (gRi2 (c1 := m_here_v13) (c2 := m_commands_v12) (wf := _) hA0 hsz hw hP hD hS) hS.2.2 dX7_readsS_84
            · have hw := hw.2 c_55
              refine lv_aload_n hx hb dX7_readsS_58 rfl (lv_at hl 0 rfl) ?_
              refine lv_iload_n hx hb dX7_readsS_59 rfl (lv_at hl 1 rfl) ?_
              refine lv_iconst (v := 3) hx hb dX7_readsS_60 (by decide) ?_
              refine lv_iadd hx hb dX7_readsS_61 ?_
              refine gCi2 (gRunV (As := [.int (x1 + 3)]) (rest := []) ⟨hx, hb, hml, hown, hts⟩ (ctX7_isClass l g a_mo a_ms a_mwas a_mtried a_msaved a_mpast a_mfar a_mdrift a_mline a_mtape a_mcommands _ m_changes m_thrown m_errorAt m_failedAt m_answer m_isSaved m_lined m_taped m_here_v13 m_commandMany m_tape m_commands_v12 (x1 + 3) hw) (cwV 1 hts gX7_readsS_X7_isClass rfl rfl rfl (by decide +kernel) ⟨Nat.le_of_ble_eq_true rfl, Nat.le_of_ble_eq_true rfl⟩) hE (gSub hP [0, 1, 2]) (gDSub hD [0, 1, 2] rfl) 0 11 rfl rfl rfl rfl rfl hl.1 rfl (lv_room (Nat.le_of_ble_eq_true rfl)) dX7_readsS_62 ⟨Nat.le_of_ble_eq_true rfl, Nat.le_of_ble_eq_true rfl⟩) hP hD hS hA [0, 1, 2] rfl (fun _ _ => rfl) rfl (fun r14 m_here_v14 m_commands_v14 H locs hw hP hD hS => ?_)
              have hP : va_P g.1 vwCl (List.flatten [kMo g a_mo a_ms a_mwas a_mtried a_msaved a_mpast a_mfar a_mdrift a_mline a_mtape a_mcommands m_changes m_thrown m_errorAt m_failedAt m_answer m_isSaved m_lined m_taped m_here_v14 m_commandMany, kAr g a_mtape 60 m_tape, kAr g a_mcommands 155 m_commands_v14]) H := hP
              have hD : va_D A (List.flatten [kMo g a_mo a_ms a_mwas a_mtried a_msaved a_mpast a_mfar a_mdrift a_mline a_mtape a_mcommands m_changes m_thrown m_errorAt m_failedAt m_answer m_isSaved m_lined m_taped m_here_v14 m_commandMany, kAr g a_mtape 60 m_tape, kAr g a_mcommands 155 m_commands_v14]) := hD
              refine lv_if_eq (tgt := 83) hx hb dX7_readsS_65 (by decide) (fun c_65 => ?_) (fun c_65 => ?_)
              · have hw := hw.1 c_65
                refine lv_iconst (v := 0) hx hb dX7_readsS_83 (by decide) ?_
                subst hQ
                exact W.zret (ty := .boolean) hx hb hr (by decide) (gRi2 (c1 := m_here_v14) (c2 := m_commands_v14) (wf := _) hA0 hsz hw hP hD hS) hS.2.2 dX7_readsS_84
              · have hw := hw.2 c_65
                refine lv_aload_n hx hb dX7_readsS_68 rfl (lv_at hl 0 rfl) ?_
                refine lv_iconst (v := 1) hx hb dX7_readsS_69 (by decide) ?_
                refine lv_iload_n hx hb dX7_readsS_70 rfl (lv_at hl 1 rfl) ?_
                refine lv_iconst (v := 4) hx hb dX7_readsS_71 (by decide) ?_
                refine lv_iadd hx hb dX7_readsS_72 ?_
                refine gCi2 (gRunV (As := [.int 1, .int (x1 + 4)]) (rest := []) ⟨hx, hb, hml, hown, hts⟩ (ctX7_isNumber l g a_mo a_ms a_mwas a_mtried a_msaved a_mpast a_mfar a_mdrift a_mline a_mtape a_mcommands _ m_changes m_thrown m_errorAt m_failedAt m_answer m_isSaved m_lined m_taped m_here_v14 m_commandMany m_tape m_commands_v14 1 (x1 + 4) hw) (cwV 2 hts gX7_readsS_X7_isNumber rfl rfl rfl (by decide +kernel) ⟨Nat.le_of_ble_eq_true rfl, Nat.le_of_ble_eq_true rfl⟩) hE (gSub hP [0, 1, 2]) (gDSub hD [0, 1, 2] rfl) 0 11 rfl rfl rfl rfl rfl hl.1 rfl (lv_room (Nat.le_of_ble_eq_true rfl)) dX7_readsS_73 ⟨Nat.le_of_ble_eq_true rfl, Nat.le_of_ble_eq_true rfl⟩) hP hD hS hA [0, 1, 2] rfl (fun _ _ => rfl) rfl (fun r15 m_here_v15 m_commands_v15 H locs hw hP hD hS => ?_)
                have hP : va_P g.1 vwCl (List.flatten [kMo g a_mo a_ms a_mwas a_mtried a_msaved a_mpast a_mfar a_mdrift a_mline a_mtape a_mcommands m_changes m_thrown m_errorAt m_failedAt m_answer m_isSaved m_lined m_taped m_here_v15 m_commandMany, kAr g a_mtape 60 m_tape, kAr g a_mcommands 155 m_commands_v15]) H := hP
                have hD : va_D A (List.flatten [kMo g a_mo a_ms a_mwas a_mtried a_msaved a_mpast a_mfar a_mdrift a_mline a_mtape a_mcommands m_changes m_thrown m_errorAt m_failedAt m_answer m_isSaved m_lined m_taped m_here_v15 m_commandMany, kAr g a_mtape 60 m_tape, kAr g a_mcommands 155 m_commands_v15]) := hD
                refine lv_if_eq (tgt := 83) hx hb dX7_readsS_76 (by decide) (fun c_76 => ?_) (fun c_76 => ?_)
                · have hw := hw.1 c_76
                  refine lv_iconst (v := 0) hx hb dX7_readsS_83 (by decide) ?_
                  subst hQ
                  exact W.zret (ty := .boolean) hx hb hr (by decide) (gRi2 (c1 := m_here_v15) (c2 := m_commands_v15) (wf := _) hA0 hsz hw hP hD hS) hS.2.2 dX7_readsS_84
                · have hw := hw.2 c_76
                  refine lv_iconst (v := 1) hx hb dX7_readsS_79 (by decide) ?_
                  refine lv_goto (tgt := 84) hx hb dX7_readsS_80 (by decide) ?_
                  subst hQ
                  exact W.zret (ty := .boolean) hx hb hr (by decide) (gRi2 (c1 := m_here_v15) (c2 := m_commands_v15) (wf := _) hA0 hsz hw hP hD hS) hS.2.2 dX7_readsS_84
abbrev rmX7_readsW : Room := { frames := 6, cells := 0, slots := 0, locals := 212 }
set_option maxRecDepth 20000 in
theorem inX7_readsW_X7 : ∀ w ∈ wsX70, w ∈ wsX7_readsW := by decide +kernel
set_option maxHeartbeats 4000000 in
set_option maxRecDepth 100000 in
theorem ctX7_readsW (l : Launch) (g : GG) (t : GT) (a_mo : Nat → Nat) (a_ms : Nat → Nat) (a_mwas : Nat → Nat) (a_mtried : Nat → Nat) (a_msaved : Nat → Nat) (a_mpast : Nat → Nat) (a_mfar : Nat → Nat) (a_mdrift : Nat → Nat) (a_mline : Nat → Nat) (a_mtape : Nat → Nat) (a_mcommands : Nat → Nat) (sz : Nat) (m_changes : Int32) (m_thrown : Int32) (m_errorAt : Int32) (m_failedAt : Int32) (m_answer : Int32) (m_isSaved : Int32) (m_lined : Int32) (m_taped : Int32) (m_here : Int32) (m_commandMany : Int32) (m_tape : Nat → Int32) (m_commands : Nat → Int32) (x1 : Int32) {post : Int32 → Int32 → (Nat → Int32) → Prop} (hw : wpX7_readsW x1 m_taped m_here m_tape m_commands post) :
    Met l yX7_readsW wsX7_readsW rmX7_readsW (gPX g t sz (List.flatten [kMo g a_mo a_ms a_mwas a_mtried a_msaved a_mpast a_mfar a_mdrift a_mline a_mtape a_mcommands m_changes m_thrown m_errorAt m_failedAt m_answer m_isSaved m_lined m_taped m_here m_commandMany, kAr g a_mtape 60 m_tape, kAr g a_mcommands 155 m_commands]) [.ref (a_mo 0), .int x1]) (gQi2 post (fun u1 u2 => gB g (List.flatten [kMo g a_mo a_ms a_mwas a_mtried a_msaved a_mpast a_mfar a_mdrift a_mline a_mtape a_mcommands m_changes m_thrown m_errorAt m_failedAt m_answer m_isSaved m_lined m_taped m_here m_commandMany, kAr g a_mtape 60 m_tape, kAr g a_mcommands 155 m_commands]) sz (List.flatten [kMo g a_mo a_ms a_mwas a_mtried a_msaved a_mpast a_mfar a_mdrift a_mline a_mtape a_mcommands m_changes m_thrown m_errorAt m_failedAt m_answer m_isSaved m_lined m_taped u1 m_commandMany, kAr g a_mtape 60 m_tape, kAr g a_mcommands 155 u2])) (va_A (List.flatten [kMo g a_mo a_ms a_mwas a_mtried a_msaved a_mpast a_mfar a_mdrift a_mline a_mtape a_mcommands m_changes m_thrown m_errorAt m_failedAt m_answer m_isSaved m_lined m_taped m_here m_commandMany, kAr g a_mtape 60 m_tape, kAr g a_mcommands 155 m_commands]) sz)) 0 0 (va_A (List.flatten [kMo g a_mo a_ms a_mwas a_mtried a_msaved a_mpast a_mfar a_mdrift a_mline a_mtape a_mcommands m_changes m_thrown m_errorAt m_failedAt m_answer m_isSaved m_lined m_taped m_here m_commandMany, kAr g a_mtape 60 m_tape, kAr g a_mcommands 155 m_commands]) sz) := by
  refine gOfX (cc := cX7_readsW) (maxL := 2) (ret := (some .boolean)) (by decide) rfl (Nat.le_of_ble_eq_true rfl) ?_
  intro p e s m below meth c ls Q A hQ hx hb hr hml hts hown hlocks hE hA0 hsz hP hD hA hS hl hX
  have hl : lv_has ls 2 [(0, .ref (a_mo 0)), (1, .int x1)] := hl
  refine lv_aload_n hx hb dX7_readsW_0 rfl (lv_at hl 0 rfl) ?_
  refine lv_bipush (v := 105) hx hb dX7_readsW_1 (by decide) ?_
  refine gCi1 (gRunV (As := [.int 105]) (rest := []) ⟨hx, hb, hml, hown, hts⟩ (ctX7_isSign l g a_mo a_ms a_mwas a_mtried a_msaved a_mpast a_mfar a_mdrift a_mline a_mtape a_mcommands _ m_changes m_thrown m_errorAt m_failedAt m_answer m_isSaved m_lined m_taped m_here m_commandMany m_tape 105 hw) (cwV 1 hts gX7_readsW_X7_isSign rfl rfl rfl (by decide +kernel) ⟨Nat.le_of_ble_eq_true rfl, Nat.le_of_ble_eq_true rfl⟩) hE (gSub hP [0, 1]) (gDSub hD [0, 1] rfl) 0 11 rfl rfl rfl rfl rfl hl.1 rfl (lv_room (Nat.le_of_ble_eq_true rfl)) dX7_readsW_3 ⟨Nat.le_of_ble_eq_true rfl, Nat.le_of_ble_eq_true rfl⟩) hP hD hS hA [0, 1] rfl (fun _ => rfl) rfl (fun r1 m_here_v1 H locs hw hP hD hS => ?_)
  have hP : va_P g.1 vwCl (List.flatten [kMo g a_mo a_ms a_mwas a_mtried a_msaved a_mpast a_mfar a_mdrift a_mline a_mtape a_mcommands m_changes m_thrown m_errorAt m_failedAt m_answer m_isSaved m_lined m_taped m_here_v1 m_commandMany, kAr g a_mtape 60 m_tape, kAr g a_mcommands 155 m_commands]) H := hP
  have hD : va_D A (List.flatten [kMo g a_mo a_ms a_mwas a_mtried a_msaved a_mpast a_mfar a_mdrift a_mline a_mtape a_mcommands m_changes m_thrown m_errorAt m_failedAt m_answer m_isSaved m_lined m_taped m_here_v1 m_commandMany, kAr g a_mtape 60 m_tape, kAr g a_mcommands 155 m_commands]) := hD
  refine lv_if_eq (tgt := 35) hx hb dX7_readsW_6 (by decide) (fun c_6 => ?_) (fun c_6 => ?_)
  · have hw := hw.1 c_6
    refine lv_aload_n hx hb dX7_readsW_35 rfl (lv_at hl 0 rfl) ?_
    refine va_get (D := g.1) (ci := 11) (v := .ref (a_mcommands 0)) (C := RX7) (T := TX7) (N := 20) hx hb hts inX7_readsW_X7 hown hE.1 hP 0 rfl rfl 16 (by decide) (gW hts 1 (.fieldLink RX7 44 "SnowDispatcherModel" "commands" "[I") rfl) (fun _ h9 => h9) rfl dX7_readsW_36 ?_
    refine lv_iload_n hx hb dX7_readsW_39 rfl (lv_at hl 1 rfl) ?_
    refine lv_bipush (v := 116) hx hb dX7_readsW_40 (by decide) ?_
    have h2 := hw.1
    have hw := hw.2
    refine va_iast hx hb hE.1 hP hD hS 2 0 rfl rfl h2 dX7_readsW_42 (fun H locs hP hD hS => ?_)
    have hP : va_P g.1 vwCl (List.flatten [kMo g a_mo a_ms a_mwas a_mtried a_msaved a_mpast a_mfar a_mdrift a_mline a_mtape a_mcommands m_changes m_thrown m_errorAt m_failedAt m_answer m_isSaved m_lined m_taped m_here_v1 m_commandMany, kAr g a_mtape 60 m_tape, kAr g a_mcommands 155 (upd m_commands x1.toNatClampNeg 116)]) H := hP
    have hD : va_D A (List.flatten [kMo g a_mo a_ms a_mwas a_mtried a_msaved a_mpast a_mfar a_mdrift a_mline a_mtape a_mcommands m_changes m_thrown m_errorAt m_failedAt m_answer m_isSaved m_lined m_taped m_here_v1 m_commandMany, kAr g a_mtape 60 m_tape, kAr g a_mcommands 155 (upd m_commands x1.toNatClampNeg 116)]) := hD
    refine lv_aload_n hx hb dX7_readsW_43 rfl (lv_at hl 0 rfl) ?_
    refine va_ldcS hx hb hown (hX.txt 13 rfl) dX7_readsW_44 ?_
    refine gCi1 (gRunVX (As := [.ref (t.1 13)]) (rest := []) ⟨hx, hb, hml, hown, hts⟩ (ctX7_isWord l g t a_mo a_ms a_mwas a_mtried a_msaved a_mpast a_mfar a_mdrift a_mline a_mtape a_mcommands _ m_changes m_thrown m_errorAt m_failedAt m_answer m_isSaved m_lined m_taped m_here_v1 m_commandMany m_tape 13 (gLen.getD 13 0) (fun j => (gByt.getD 13 []).getD j 0) ⟨by decide, rfl, rfl⟩ hw) (cwV 1 hts gX7_readsW_X7_isWord rfl rfl rfl (by decide +kernel) ⟨Nat.le_of_ble_eq_true rfl, Nat.le_of_ble_eq_true rfl⟩) hE hX hS (gFree hD hS hA [0, 1]) (gSub hP [0, 1]) (gDSub hD [0, 1] rfl) 0 11 rfl rfl rfl rfl rfl hl.1 rfl (lv_room (Nat.le_of_ble_eq_true rfl)) dX7_readsW_46 ⟨Nat.le_of_ble_eq_true rfl, Nat.le_of_ble_eq_true rfl⟩) hP hD hS hA [0, 1] rfl (fun _ => rfl) rfl (fun r3 m_here_v3 H locs hw hP hD hS => ?_)
    have hP : va_P g.1 vwCl (List.flatten [kMo g a_mo a_ms a_mwas a_mtried a_msaved a_mpast a_mfar a_mdrift a_mline a_mtape a_mcommands m_changes m_thrown m_errorAt m_failedAt m_answer m_isSaved m_lined m_taped m_here_v3 m_commandMany, kAr g a_mtape 60 m_tape, kAr g a_mcommands 155 (upd m_commands x1.toNatClampNeg 116)]) H := hP
    have hD : va_D A (List.flatten [kMo g a_mo a_ms a_mwas a_mtried a_msaved a_mpast a_mfar a_mdrift a_mline a_mtape a_mcommands m_changes m_thrown m_errorAt m_failedAt m_answer m_isSaved m_lined m_taped m_here_v3 m_commandMany, kAr g a_mtape 60 m_tape, kAr g a_mcommands 155 (upd m_commands x1.toNatClampNeg 116)]) := hD
    refine lv_if_eq (tgt := 67) hx hb dX7_readsW_49 (by decide) (fun c_49 => ?_) (fun c_49 => ?_)
    · have hw := hw.1 c_49
      refine lv_iconst (v := 0) hx hb dX7_readsW_67 (by decide) ?_
      subst hQ
      exact W.zret (ty := .boolean) hx hb hr (by decide) (gRi2 (c1 := m_here_v3) (c2 := (upd m_commands x1.toNatClampNeg 116)) (wf := _) hA0 hsz hw hP hD hS) hS.2.2 dX7_readsW_68
    · have hw := hw.2 c_49
      refine lv_aload_n hx hb dX7_readsW_52 rfl (lv_at hl 0 rfl) ?_
      refine lv_iconst (v := 3) hx hb dX7_readsW_53 (by decide) ?_
      refine lv_iload_n hx hb dX7_readsW_54 rfl (lv_at hl 1 rfl) ?_
      refine lv_iconst (v := 1) hx hb dX7_readsW_55 (by decide) ?_
      refine lv_iadd hx hb dX7_readsW_56 ?_
      refine gCi2 (gRunV (As := [.int 3, .int (x1 + 1)]) (rest := []) ⟨hx, hb, hml, hown, hts⟩ (ctX7_isNumber l g a_mo a_ms a_mwas a_mtried a_msaved a_mpast a_mfar a_mdrift a_mline a_mtape a_mcommands _ m_changes m_thrown m_errorAt m_failedAt m_answer m_isSaved m_lined m_taped m_here_v3 m_commandMany m_tape (upd m_commands x1.toNatClampNeg 116) 3 (x1 + 1) hw) (cwV 2 hts gX7_readsW_X7_isNumber rfl rfl rfl (by decide +kernel) ⟨Nat.le_of_ble_eq_true rfl, Nat.le_of_ble_eq_true rfl⟩) hE (gSub hP [0, 1, 2]) (gDSub hD [0, 1, 2] rfl) 0 11 rfl rfl rfl rfl rfl hl.1 rfl (lv_room (Nat.le_of_ble_eq_true rfl)) dX7_readsW_57 ⟨Nat.le_of_ble_eq_true rfl, Nat.le_of_ble_eq_true rfl⟩) hP hD hS hA [0, 1, 2] rfl (fun _ _ => rfl) rfl (fun r4 m_here_v4 m_commands_v4 H locs hw hP hD hS => ?_)
      have hP : va_P g.1 vwCl (List.flatten [kMo g a_mo a_ms a_mwas a_mtried a_msaved a_mpast a_mfar a_mdrift a_mline a_mtape a_mcommands m_changes m_thrown m_errorAt m_failedAt m_answer m_isSaved m_lined m_taped m_here_v4 m_commandMany, kAr g a_mtape 60 m_tape, kAr g a_mcommands 155 m_commands_v4]) H := hP
      have hD : va_D A (List.flatten [kMo g a_mo a_ms a_mwas a_mtried a_msaved a_mpast a_mfar a_mdrift a_mline a_mtape a_mcommands m_changes m_thrown m_errorAt m_failedAt m_answer m_isSaved m_lined m_taped m_here_v4 m_commandMany, kAr g a_mtape 60 m_tape, kAr g a_mcommands 155 m_commands_v4]) := hD
      refine lv_if_eq (tgt := 67) hx hb dX7_readsW_60 (by decide) (fun c_60 => ?_) (fun c_60 => ?_)
      · have hw := hw.1 c_60
        refine lv_iconst (v := 0) hx hb dX7_readsW_67 (by decide) ?_
        subst hQ
        exact W.zret (ty := .boolean) hx hb hr (by decide) (gRi2 (c1 := m_here_v4) (c2 := m_commands_v4) (wf := _) hA0 hsz hw hP hD hS) hS.2.2 dX7_readsW_68
      · have hw := hw.2 c_60
        refine lv_iconst (v := 1) hx hb dX7_readsW_63 (by decide) ?_
        refine lv_goto (tgt := 68) hx hb dX7_readsW_64 (by decide) ?_
        subst hQ
        exact W.zret (ty := .boolean) hx hb hr (by decide) (gRi2 (c1 := m_here_v4) (c2 := m_commands_v4) (wf := _) hA0 hsz hw hP hD hS) hS.2.2 dX7_readsW_68
  · have hw := hw.2 c_6
    refine lv_aload_n hx hb dX7_readsW_9 rfl (lv_at hl 0 rfl) ?_
    refine va_ldcS hx hb hown (hX.txt 12 rfl) dX7_readsW_10 ?_
    refine gCi1 (gRunVX (As := [.ref (t.1 12)]) (rest := []) ⟨hx, hb, hml, hown, hts⟩ (ctX7_isWord l g t a_mo a_ms a_mwas a_mtried a_msaved a_mpast a_mfar a_mdrift a_mline a_mtape a_mcommands _ m_changes m_thrown m_errorAt m_failedAt m_answer m_isSaved m_lined m_taped m_here_v1 m_commandMany m_tape 12 (gLen.getD 12 0) (fun j => (gByt.getD 12 []).getD j 0) ⟨by decide, rfl, rfl⟩ hw) (cwV 1 hts gX7_readsW_X7_isWord rfl rfl rfl (by decide +kernel) ⟨Nat.le_of_ble_eq_true rfl, Nat.le_of_ble_eq_true rfl⟩) hE hX hS (gFree hD hS hA [0, 1]) (gSub hP [0, 1]) (gDSub hD [0, 1] rfl) 0 11 rfl rfl rfl rfl rfl hl.1 rfl (lv_room (Nat.le_of_ble_eq_true rfl)) dX7_readsW_12 ⟨Nat.le_of_ble_eq_true rfl, Nat.le_of_ble_eq_true rfl⟩) hP hD hS hA [0, 1] rfl (fun _ => rfl) rfl (fun r5 m_here_v5 H locs hw hP hD hS => ?_)
    have hP : va_P g.1 vwCl (List.flatten [kMo g a_mo a_ms a_mwas a_mtried a_msaved a_mpast a_mfar a_mdrift a_mline a_mtape a_mcommands m_changes m_thrown m_errorAt m_failedAt m_answer m_isSaved m_lined m_taped m_here_v5 m_commandMany, kAr g a_mtape 60 m_tape, kAr g a_mcommands 155 m_commands]) H := hP
    have hD : va_D A (List.flatten [kMo g a_mo a_ms a_mwas a_mtried a_msaved a_mpast a_mfar a_mdrift a_mline a_mtape a_mcommands m_changes m_thrown m_errorAt m_failedAt m_answer m_isSaved m_lined m_taped m_here_v5 m_commandMany, kAr g a_mtape 60 m_tape, kAr g a_mcommands 155 m_commands]) := hD
    refine lv_if_eq (tgt := 33) hx hb dX7_readsW_15 (by decide) (fun c_15 => ?_) (fun c_15 => ?_)
    · have hw := hw.1 c_15
      refine lv_iconst (v := 0) hx hb dX7_readsW_33 (by decide) ?_
      subst hQ
      exact W.zret (ty := .boolean) hx hb hr (by decide) (gRi2 (c1 := m_here_v5) (c2 := m_commands) (wf := _) hA0 hsz hw hP hD hS) hS.2.2 dX7_readsW_34
    · have hw := hw.2 c_15
      refine lv_aload_n hx hb dX7_readsW_18 rfl (lv_at hl 0 rfl) ?_
      refine lv_iconst (v := 1) hx hb dX7_readsW_19 (by decide) ?_
      refine lv_iload_n hx hb dX7_readsW_20 rfl (lv_at hl 1 rfl) ?_
      refine lv_iconst (v := 1) hx hb dX7_readsW_21 (by decide) ?_
      refine lv_iadd hx hb dX7_readsW_22 ?_
      refine gCi2 (gRunV (As := [.int 1, .int (x1 + 1)]) (rest := []) ⟨hx, hb, hml, hown, hts⟩ (ctX7_isNumber l g a_mo a_ms a_mwas a_mtried a_msaved a_mpast a_mfar a_mdrift a_mline a_mtape a_mcommands _ m_changes m_thrown m_errorAt m_failedAt m_answer m_isSaved m_lined m_taped m_here_v5 m_commandMany m_tape m_commands 1 (x1 + 1) hw) (cwV 2 hts gX7_readsW_X7_isNumber rfl rfl rfl (by decide +kernel) ⟨Nat.le_of_ble_eq_true rfl, Nat.le_of_ble_eq_true rfl⟩) hE (gSub hP [0, 1, 2]) (gDSub hD [0, 1, 2] rfl) 0 11 rfl rfl rfl rfl rfl hl.1 rfl (lv_room (Nat.le_of_ble_eq_true rfl)) dX7_readsW_23 ⟨Nat.le_of_ble_eq_true rfl, Nat.le_of_ble_eq_true rfl⟩) hP hD hS hA [0, 1, 2] rfl (fun _ _ => rfl) rfl (fun r6 m_here_v6 m_commands_v6 H locs hw hP hD hS => ?_)
      have hP : va_P g.1 vwCl (List.flatten [kMo g a_mo a_ms a_mwas a_mtried a_msaved a_mpast a_mfar a_mdrift a_mline a_mtape a_mcommands m_changes m_thrown m_errorAt m_failedAt m_answer m_isSaved m_lined m_taped m_here_v6 m_commandMany, kAr g a_mtape 60 m_tape, kAr g a_mcommands 155 m_commands_v6]) H := hP
      have hD : va_D A (List.flatten [kMo g a_mo a_ms a_mwas a_mtried a_msaved a_mpast a_mfar a_mdrift a_mline a_mtape a_mcommands m_changes m_thrown m_errorAt m_failedAt m_answer m_isSaved m_lined m_taped m_here_v6 m_commandMany, kAr g a_mtape 60 m_tape, kAr g a_mcommands 155 m_commands_v6]) := hD
      refine lv_if_eq (tgt := 33) hx hb dX7_readsW_26 (by decide) (fun c_26 => ?_) (fun c_26 => ?_)
      · have hw := hw.1 c_26
        refine lv_iconst (v := 0) hx hb dX7_readsW_33 (by decide) ?_
        subst hQ
        exact W.zret (ty := .boolean) hx hb hr (by decide) (gRi2 (c1 := m_here_v6) (c2 := m_commands_v6) (wf := _) hA0 hsz hw hP hD hS) hS.2.2 dX7_readsW_34
      · have hw := hw.2 c_26
        refine lv_iconst (v := 1) hx hb dX7_readsW_29 (by decide) ?_
        refine lv_goto (tgt := 34) hx hb dX7_readsW_30 (by decide) ?_
        subst hQ
        exact W.zret (ty := .boolean) hx hb hr (by decide) (gRi2 (c1 := m_here_v6) (c2 := m_commands_v6) (wf := _) hA0 hsz hw hP hD hS) hS.2.2 dX7_readsW_34
abbrev rmX7_readsRest : Room := { frames := 7, cells := 0, slots := 0, locals := 234 }
set_option maxRecDepth 20000 in
theorem inX7_readsRest_X7 : ∀ w ∈ wsX70, w ∈ wsX7_readsRest := by decide +kernel
set_option maxHeartbeats 4000000 in
set_option maxRecDepth 100000 in
theorem ctX7_readsRest (l : Launch) (g : GG) (t : GT) (a_mo : Nat → Nat) (a_ms : Nat → Nat) (a_mwas : Nat → Nat) (a_mtried : Nat → Nat) (a_msaved : Nat → Nat) (a_mpast : Nat → Nat) (a_mfar : Nat → Nat) (a_mdrift : Nat → Nat) (a_mline : Nat → Nat) (a_mtape : Nat → Nat) (a_mcommands : Nat → Nat) (sz : Nat) (m_changes : Int32) (m_thrown : Int32) (m_errorAt : Int32) (m_failedAt : Int32) (m_answer : Int32) (m_isSaved : Int32) (m_lined : Int32) (m_taped : Int32) (m_here : Int32) (m_commandMany : Int32) (m_tape : Nat → Int32) (m_commands : Nat → Int32) (x1 : Int32) (x2 : Int32) {post : Int32 → Int32 → (Nat → Int32) → Prop} (hw : wpX7_readsRest x1 x2 m_taped m_here m_tape m_commands post) :
    Met l yX7_readsRest wsX7_readsRest rmX7_readsRest (gPX g t sz (List.flatten [kMo g a_mo a_ms a_mwas a_mtried a_msaved a_mpast a_mfar a_mdrift a_mline a_mtape a_mcommands m_changes m_thrown m_errorAt m_failedAt m_answer m_isSaved m_lined m_taped m_here m_commandMany, kAr g a_mtape 60 m_tape, kAr g a_mcommands 155 m_commands]) [.ref (a_mo 0), .int x1, .int x2]) (gQi2 post (fun u1 u2 => gB g (List.flatten [kMo g a_mo a_ms a_mwas a_mtried a_msaved a_mpast a_mfar a_mdrift a_mline a_mtape a_mcommands m_changes m_thrown m_errorAt m_failedAt m_answer m_isSaved m_lined m_taped m_here m_commandMany, kAr g a_mtape 60 m_tape, kAr g a_mcommands 155 m_commands]) sz (List.flatten [kMo g a_mo a_ms a_mwas a_mtried a_msaved a_mpast a_mfar a_mdrift a_mline a_mtape a_mcommands m_changes m_thrown m_errorAt m_failedAt m_answer m_isSaved m_lined m_taped u1 m_commandMany, kAr g a_mtape 60 m_tape, kAr g a_mcommands 155 u2])) (va_A (List.flatten [kMo g a_mo a_ms a_mwas a_mtried a_msaved a_mpast a_mfar a_mdrift a_mline a_mtape a_mcommands m_changes m_thrown m_errorAt m_failedAt m_answer m_isSaved m_lined m_taped m_here m_commandMany, kAr g a_mtape 60 m_tape, kAr g a_mcommands 155 m_commands]) sz)) 0 0 (va_A (List.flatten [kMo g a_mo a_ms a_mwas a_mtried a_msaved a_mpast a_mfar a_mdrift a_mline a_mtape a_mcommands m_changes m_thrown m_errorAt m_failedAt m_answer m_isSaved m_lined m_taped m_here m_commandMany, kAr g a_mtape 60 m_tape, kAr g a_mcommands 155 m_commands]) sz) := by
  refine gOfX (cc := cX7_readsRest) (maxL := 3) (ret := (some .boolean)) (by decide) rfl (Nat.le_of_ble_eq_true rfl) ?_
  intro p e s m below meth c ls Q A hQ hx hb hr hml hts hown hlocks hE hA0 hsz hP hD hA hS hl hX
  have hl : lv_has ls 3 [(0, .ref (a_mo 0)), (1, .int x1), (2, .int x2)] := hl
  refine lv_iload_n hx hb dX7_readsRest_0 rfl (lv_at hl 1 rfl) ?_
  by_cases c_1_0 : x1 = 99
  · have hw := hw.1 c_1_0
    refine lv_lookup (off := 135) (tgt := 136) hx hb dX7_readsRest_1 rfl (gLk c_1_0 rfl) (by decide) ?_
    refine lv_aload_n hx hb dX7_readsRest_136 rfl (lv_at hl 0 rfl) ?_
    refine va_ldcS hx hb hown (hX.txt 16 rfl) dX7_readsRest_137 ?_
    refine gCi1 (gRunVX (As := [.ref (t.1 16)]) (rest := []) ⟨hx, hb, hml, hown, hts⟩ (ctX7_isWord l g t a_mo a_ms a_mwas a_mtried a_msaved a_mpast a_mfar a_mdrift a_mline a_mtape a_mcommands _ m_changes m_thrown m_errorAt m_failedAt m_answer m_isSaved m_lined m_taped m_here m_commandMany m_tape 16 (gLen.getD 16 0) (fun j => (gByt.getD 16 []).getD j 0) ⟨by decide, rfl, rfl⟩ hw) (cwV 1 hts gX7_readsRest_X7_isWord rfl rfl rfl (by decide +kernel) ⟨Nat.le_of_ble_eq_true rfl, Nat.le_of_ble_eq_true rfl⟩) hE hX hS (gFree hD hS hA [0, 1]) (gSub hP [0, 1]) (gDSub hD [0, 1] rfl) 0 11 rfl rfl rfl rfl rfl hl.1 rfl (lv_room (Nat.le_of_ble_eq_true rfl)) dX7_readsRest_139 ⟨Nat.le_of_ble_eq_true rfl, Nat.le_of_ble_eq_true rfl⟩) hP hD hS hA [0, 1] rfl (fun _ => rfl) rfl (fun r1 m_here_v1 H locs hw hP hD hS => ?_)
    have hP : va_P g.1 vwCl (List.flatten [kMo g a_mo a_ms a_mwas a_mtried a_msaved a_mpast a_mfar a_mdrift a_mline a_mtape a_mcommands m_changes m_thrown m_errorAt m_failedAt m_answer m_isSaved m_lined m_taped m_here_v1 m_commandMany, kAr g a_mtape 60 m_tape, kAr g a_mcommands 155 m_commands]) H := hP
    have hD : va_D A (List.flatten [kMo g a_mo a_ms a_mwas a_mtried a_msaved a_mpast a_mfar a_mdrift a_mline a_mtape a_mcommands m_changes m_thrown m_errorAt m_failedAt m_answer m_isSaved m_lined m_taped m_here_v1 m_commandMany, kAr g a_mtape 60 m_tape, kAr g a_mcommands 155 m_commands]) := hD
    refine lv_if_eq (tgt := 160) hx hb dX7_readsRest_142 (by decide) (fun c_142 => ?_) (fun c_142 => ?_)
    · have hw := hw.1 c_142
      refine lv_iconst (v := 0) hx hb dX7_readsRest_160 (by decide) ?_
      subst hQ
      exact W.zret (ty := .boolean) hx hb hr (by decide) (gRi2 (c1 := m_here_v1) (c2 := m_commands) (wf := _) hA0 hsz hw hP hD hS) hS.2.2 dX7_readsRest_161
    · have hw := hw.2 c_142
      refine lv_aload_n hx hb dX7_readsRest_145 rfl (lv_at hl 0 rfl) ?_
      refine lv_iconst (v := 1) hx hb dX7_readsRest_146 (by decide) ?_
      refine lv_iload_n hx hb dX7_readsRest_147 rfl (lv_at hl 2 rfl) ?_
      refine lv_iconst (v := 1) hx hb dX7_readsRest_148 (by decide) ?_
      refine lv_iadd hx hb dX7_readsRest_149 ?_
      refine gCi2 (gRunV (As := [.int 1, .int (x2 + 1)]) (rest := []) ⟨hx, hb, hml, hown, hts⟩ (ctX7_isNumber l g a_mo a_ms a_mwas a_mtried a_msaved a_mpast a_mfar a_mdrift a_mline a_mtape a_mcommands _ m_changes m_thrown m_errorAt m_failedAt m_answer m_isSaved m_lined m_taped m_here_v1 m_commandMany m_tape m_commands 1 (x2 + 1) hw) (cwV 2 hts gX7_readsRest_X7_isNumber rfl rfl rfl (by decide +kernel) ⟨Nat.le_of_ble_eq_true rfl, Nat.le_of_ble_eq_true rfl⟩) hE (gSub hP [0, 1, 2]) (gDSub hD [0, 1, 2] rfl) 0 11 rfl rfl rfl rfl rfl hl.1 rfl (lv_room (Nat.le_of_ble_eq_true rfl)) dX7_readsRest_150 ⟨Nat.le_of_ble_eq_true rfl, Nat.le_of_ble_eq_true rfl⟩) hP hD hS hA [0, 1, 2] rfl (fun _ _ => rfl) rfl (fun r2 m_here_v2 m_commands_v2 H locs hw hP hD hS => ?_)
      have hP : va_P g.1 vwCl (List.flatten [kMo g a_mo a_ms a_mwas a_mtried a_msaved a_mpast a_mfar a_mdrift a_mline a_mtape a_mcommands m_changes m_thrown m_errorAt m_failedAt m_answer m_isSaved m_lined m_taped m_here_v2 m_commandMany, kAr g a_mtape 60 m_tape, kAr g a_mcommands 155 m_commands_v2]) H := hP
      have hD : va_D A (List.flatten [kMo g a_mo a_ms a_mwas a_mtried a_msaved a_mpast a_mfar a_mdrift a_mline a_mtape a_mcommands m_changes m_thrown m_errorAt m_failedAt m_answer m_isSaved m_lined m_taped m_here_v2 m_commandMany, kAr g a_mtape 60 m_tape, kAr g a_mcommands 155 m_commands_v2]) := hD
      refine lv_if_eq (tgt := 160) hx hb dX7_readsRest_153 (by decide) (fun c_153 => ?_) (fun c_153 => ?_)
      · have hw := hw.1 c_153
        refine lv_iconst (v := 0) hx hb dX7_readsRest_160 (by decide) ?_
        subst hQ
        exact W.zret (ty := .boolean) hx hb hr (by decide) (gRi2 (c1 := m_here_v2) (c2 := m_commands_v2) (wf := _) hA0 hsz hw hP hD hS) hS.2.2 dX7_readsRest_161
      · have hw := hw.2 c_153
        refine lv_iconst (v := 1) hx hb dX7_readsRest_156 (by decide) ?_
        refine lv_goto (tgt := 161) hx hb dX7_readsRest_157 (by decide) ?_
        subst hQ
        exact W.zret (ty := .boolean) hx hb hr (by decide) (gRi2 (c1 := m_here_v2) (c2 := m_commands_v2) (wf := _) hA0 hsz hw hP hD hS) hS.2.2 dX7_readsRest_161
  · have hw := hw.2 c_1_0
    by_cases c_1_1 : x1 = 111
    · have hw := hw.1 c_1_1
      refine lv_lookup (off := 89) (tgt := 90) hx hb dX7_readsRest_1 rfl (gLk c_1_1 rfl) (by decide) ?_
      refine lv_aload_n hx hb dX7_readsRest_90 rfl (lv_at hl 0 rfl) ?_
      refine va_ldcS hx hb hown (hX.txt 15 rfl) dX7_readsRest_91 ?_
      refine gCi1 (gRunVX (As := [.ref (t.1 15)]) (rest := []) ⟨hx, hb, hml, hown, hts⟩ (ctX7_isWord l g t a_mo a_ms a_mwas a_mtried a_msaved a_mpast a_mfar a_mdrift a_mline a_mtape a_mcommands _ m_changes m_thrown m_errorAt m_failedAt m_answer m_isSaved m_lined m_taped m_here m_commandMany m_tape 15 (gLen.getD 15 0) (fun j => (gByt.getD 15 []).getD j 0) ⟨by decide, rfl, rfl⟩ hw) (cwV 1 hts gX7_readsRest_X7_isWord rfl rfl rfl (by decide +kernel) ⟨Nat.le_of_ble_eq_true rfl, Nat.le_of_ble_eq_true rfl⟩) hE hX hS (gFree hD hS hA [0, 1]) (gSub hP [0, 1]) (gDSub hD [0, 1] rfl) 0 11 rfl rfl rfl rfl rfl hl.1 rfl (lv_room (Nat.le_of_ble_eq_true rfl)) dX7_readsRest_93 ⟨Nat.le_of_ble_eq_true rfl, Nat.le_of_ble_eq_true rfl⟩) hP hD hS hA [0, 1] rfl (fun _ => rfl) rfl (fun r3 m_here_v3 H locs hw hP hD hS => ?_)
      have hP : va_P g.1 vwCl (List.flatten [kMo g a_mo a_ms a_mwas a_mtried a_msaved a_mpast a_mfar a_mdrift a_mline a_mtape a_mcommands m_changes m_thrown m_errorAt m_failedAt m_answer m_isSaved m_lined m_taped m_here_v3 m_commandMany, kAr g a_mtape 60 m_tape, kAr g a_mcommands 155 m_commands]) H := hP
      have hD : va_D A (List.flatten [kMo g a_mo a_ms a_mwas a_mtried a_msaved a_mpast a_mfar a_mdrift a_mline a_mtape a_mcommands m_changes m_thrown m_errorAt m_failedAt m_answer m_isSaved m_lined m_taped m_here_v3 m_commandMany, kAr g a_mtape 60 m_tape, kAr g a_mcommands 155 m_commands]) := hD
      refine lv_if_eq (tgt := 134) hx hb dX7_readsRest_96 (by decide) (fun c_96 => ?_) (fun c_96 => ?_)
      · have hw := hw.1 c_96
        refine lv_iconst (v := 0) hx hb dX7_readsRest_134 (by decide) ?_
        subst hQ
        exact W.zret (ty := .boolean) hx hb hr (by decide) (gRi2 (c1 := m_here_v3) (c2 := m_commands) (wf := _) hA0 hsz hw hP hD hS) hS.2.2 dX7_readsRest_135
      · have hw := hw.2 c_96
        refine lv_aload_n hx hb dX7_readsRest_99 rfl (lv_at hl 0 rfl) ?_
        refine lv_iconst (v := 1) hx hb dX7_readsRest_100 (by decide) ?_
        refine lv_iload_n hx hb dX7_readsRest_101 rfl (lv_at hl 2 rfl) ?_
        refine lv_iconst (v := 1) hx hb dX7_readsRest_102 (by decide) ?_
        refine lv_iadd hx hb dX7_readsRest_103 ?_
        refine gCi2 (gRunV (As := [.int 1, .int (x2 + 1)]) (rest := []) ⟨hx, hb, hml, hown, hts⟩ (ctX7_isNumber l g a_mo a_ms a_mwas a_mtried a_msaved a_mpast a_mfar a_mdrift a_mline a_mtape a_mcommands _ m_changes m_thrown m_errorAt m_failedAt m_answer m_isSaved m_lined m_taped m_here_v3 m_commandMany m_tape m_commands 1 (x2 + 1) hw) (cwV 2 hts gX7_readsRest_X7_isNumber rfl rfl rfl (by decide +kernel) ⟨Nat.le_of_ble_eq_true rfl, Nat.le_of_ble_eq_true rfl⟩) hE (gSub hP [0, 1, 2]) (gDSub hD [0, 1, 2] rfl) 0 11 rfl rfl rfl rfl rfl hl.1 rfl (lv_room (Nat.le_of_ble_eq_true rfl)) dX7_readsRest_104 ⟨Nat.le_of_ble_eq_true rfl, Nat.le_of_ble_eq_true rfl⟩) hP hD hS hA [0, 1, 2] rfl (fun _ _ => rfl) rfl (fun r4 m_here_v4 m_commands_v4 H locs hw hP hD hS => ?_)
        have hP : va_P g.1 vwCl (List.flatten [kMo g a_mo a_ms a_mwas a_mtried a_msaved a_mpast a_mfar a_mdrift a_mline a_mtape a_mcommands m_changes m_thrown m_errorAt m_failedAt m_answer m_isSaved m_lined m_taped m_here_v4 m_commandMany, kAr g a_mtape 60 m_tape, kAr g a_mcommands 155 m_commands_v4]) H := hP
        have hD : va_D A (List.flatten [kMo g a_mo a_ms a_mwas a_mtried a_msaved a_mpast a_mfar a_mdrift a_mline a_mtape a_mcommands m_changes m_thrown m_errorAt m_failedAt m_answer m_isSaved m_lined m_taped m_here_v4 m_commandMany, kAr g a_mtape 60 m_tape, kAr g a_mcommands 155 m_commands_v4]) := hD
        refine lv_if_eq (tgt := 134) hx hb dX7_readsRest_107 (by decide) (fun c_107 => ?_) (fun c_107 => ?_)
        · have hw := hw.1 c_107
          refine lv_iconst (v := 0) hx hb dX7_readsRest_134 (by decide) ?_
          subst hQ
          exact W.zret (ty := .boolean) hx hb hr (by decide) (gRi2 (c1 := m_here_v4) (c2 := m_commands_v4) (wf := _) hA0 hsz hw hP hD hS) hS.2.2 dX7_readsRest_135
        · have hw := hw.2 c_107
          refine lv_aload_n hx hb dX7_readsRest_110 rfl (lv_at hl 0 rfl) ?_
          refine lv_bipush (v := 32) hx hb dX7_readsRest_111 (by decide) ?_
          refine gCi1 (gRunV (As := [.int 32]) (rest := []) ⟨hx, hb, hml, hown, hts⟩ (ctX7_isSign l g a_mo a_ms a_mwas a_mtried a_msaved a_mpast a_mfar a_mdrift a_mline a_mtape a_mcommands _ m_changes m_thrown m_errorAt m_failedAt m_answer m_isSaved m_lined m_taped m_here_v4 m_commandMany m_tape 32 hw) (cwV 1 hts gX7_readsRest_X7_isSign rfl rfl rfl (by decide +kernel) ⟨Nat.le_of_ble_eq_true rfl, Nat.le_of_ble_eq_true rfl⟩) hE (gSub hP [0, 1]) (gDSub hD [0, 1] rfl) 0 11 rfl rfl rfl rfl rfl hl.1 rfl (lv_room (Nat.le_of_ble_eq_true rfl)) dX7_readsRest_113 ⟨Nat.le_of_ble_eq_true rfl, Nat.le_of_ble_eq_true rfl⟩) hP hD hS hA [0, 1] rfl (fun _ => rfl) rfl (fun r5 m_here_v5 H locs hw hP hD hS => ?_)
          have hP : va_P g.1 vwCl (List.flatten [kMo g a_mo a_ms a_mwas a_mtried a_msaved a_mpast a_mfar a_mdrift a_mline a_mtape a_mcommands m_changes m_thrown m_errorAt m_failedAt m_answer m_isSaved m_lined m_taped m_here_v5 m_commandMany, kAr g a_mtape 60 m_tape, kAr g a_mcommands 155 m_commands_v4]) H := hP
          have hD : va_D A (List.flatten [kMo g a_mo a_ms a_mwas a_mtried a_msaved a_mpast a_mfar a_mdrift a_mline a_mtape a_mcommands m_changes m_thrown m_errorAt m_failedAt m_answer m_isSaved m_lined m_taped m_here_v5 m_commandMany, kAr g a_mtape 60 m_tape, kAr g a_mcommands 155 m_commands_v4]) := hD
          refine lv_if_eq (tgt := 134) hx hb dX7_readsRest_116 (by decide) (fun c_116 => ?_) (fun c_116 => ?_)
          · have hw := hw.1 c_116
            refine lv_iconst (v := 0) hx hb dX7_readsRest_134 (by decide) ?_
            subst hQ
            exact W.zret (ty := .boolean) hx hb hr (by decide) (gRi2 (c1 := m_here_v5) (c2 := m_commands_v4) (wf := _) hA0 hsz hw hP hD hS) hS.2.2 dX7_readsRest_135
          · have hw := hw.2 c_116
            refine lv_aload_n hx hb dX7_readsRest_119 rfl (lv_at hl 0 rfl) ?_
            refine lv_iconst (v := 3) hx hb dX7_readsRest_120 (by decide) ?_
            refine lv_iload_n hx hb dX7_readsRest_121 rfl (lv_at hl 2 rfl) ?_
            refine lv_iconst (v := 2) hx hb dX7_readsRest_122 (by decide) ?_
            refine lv_iadd hx hb dX7_readsRest_123 ?_
            refine gCi2 (gRunV (As := [.int 3, .int (x2 + 2)]) (rest := []) ⟨hx, hb, hml, hown, hts⟩ (ctX7_isNumber l g a_mo a_ms a_mwas a_mtried a_msaved a_mpast a_mfar a_mdrift a_mline a_mtape a_mcommands _ m_changes m_thrown m_errorAt m_failedAt m_answer m_isSaved m_lined m_taped m_here_v5 m_commandMany m_tape m_commands_v4 3 (x2 + 2) hw) (cwV 2 hts gX7_readsRest_X7_isNumber rfl rfl rfl (by decide +kernel) ⟨Nat.le_of_ble_eq_true rfl, Nat.le_of_ble_eq_true rfl⟩) hE (gSub hP [0, 1, 2]) (gDSub hD [0, 1, 2] rfl) 0 11 rfl rfl rfl rfl rfl hl.1 rfl (lv_room (Nat.le_of_ble_eq_true rfl)) dX7_readsRest_124 ⟨Nat.le_of_ble_eq_true rfl, Nat.le_of_ble_eq_true rfl⟩) hP hD hS hA [0, 1, 2] rfl (fun _ _ => rfl) rfl (fun r6 m_here_v6 m_commands_v6 H locs hw hP hD hS => ?_)
            have hP : va_P g.1 vwCl (List.flatten [kMo g a_mo a_ms a_mwas a_mtried a_msaved a_mpast a_mfar a_mdrift a_mline a_mtape a_mcommands m_changes m_thrown m_errorAt m_failedAt m_answer m_isSaved m_lined m_taped m_here_v6 m_commandMany, kAr g a_mtape 60 m_tape, kAr g a_mcommands 155 m_commands_v6]) H := hP
            have hD : va_D A (List.flatten [kMo g a_mo a_ms a_mwas a_mtried a_msaved a_mpast a_mfar a_mdrift a_mline a_mtape a_mcommands m_changes m_thrown m_errorAt m_failedAt m_answer m_isSaved m_lined m_taped m_here_v6 m_commandMany, kAr g a_mtape 60 m_tape, kAr g a_mcommands 155 m_commands_v6]) := hD
            refine lv_if_eq (tgt := 134) hx hb dX7_readsRest_127 (by decide) (fun c_127 => ?_) (fun c_127 => ?_)
            · have hw := hw.1 c_127
              refine lv_iconst (v := 0) hx hb dX7_readsRest_134 (by decide) ?_
              subst hQ
              exact W.zret (ty := .boolean) hx hb hr (by decide) (gRi2 (c1 := m_here_v6) (c2 := m_commands_v6) (wf := _) hA0 hsz hw hP hD hS) hS.2.2 dX7_readsRest_135
            · have hw := hw.2 c_127
              refine lv_iconst (v := 1) hx hb dX7_readsRest_130 (by decide) ?_
              refine lv_goto (tgt := 135) hx hb dX7_readsRest_131 (by decide) ?_
              subst hQ
              exact W.zret (ty := .boolean) hx hb hr (by decide) (gRi2 (c1 := m_here_v6) (c2 := m_commands_v6) (wf := _) hA0 hsz hw hP hD hS) hS.2.2 dX7_readsRest_135
    · have hw := hw.2 c_1_1
      by_cases c_1_2 : x1 = 112
      · have hw := hw.1 c_1_2
        refine lv_lookup (off := 63) (tgt := 64) hx hb dX7_readsRest_1 rfl (gLk c_1_2 rfl) (by decide) ?_
        refine lv_aload_n hx hb dX7_readsRest_64 rfl (lv_at hl 0 rfl) ?_
        refine va_ldcS hx hb hown (hX.txt 14 rfl) dX7_readsRest_65 ?_
        refine gCi1 (gRunVX (As := [.ref (t.1 14)]) (rest := []) ⟨hx, hb, hml, hown, hts⟩ (ctX7_isWord l g t a_mo a_ms a_mwas a_mtried a_msaved a_mpast a_mfar a_mdrift a_mline a_mtape a_mcommands _ m_changes m_thrown m_errorAt m_failedAt m_answer m_isSaved m_lined m_taped m_here m_commandMany m_tape 14 (gLen.getD 14 0) (fun j => (gByt.getD 14 []).getD j 0) ⟨by decide, rfl, rfl⟩ hw) (cwV 1 hts gX7_readsRest_X7_isWord rfl rfl rfl (by decide +kernel) ⟨Nat.le_of_ble_eq_true rfl, Nat.le_of_ble_eq_true rfl⟩) hE hX hS (gFree hD hS hA [0, 1]) (gSub hP [0, 1]) (gDSub hD [0, 1] rfl) 0 11 rfl rfl rfl rfl rfl hl.1 rfl (lv_room (Nat.le_of_ble_eq_true rfl)) dX7_readsRest_67 ⟨Nat.le_of_ble_eq_true rfl, Nat.le_of_ble_eq_true rfl⟩) hP hD hS hA [0, 1] rfl (fun _ => rfl) rfl (fun r7 m_here_v7 H locs hw hP hD hS => ?_)
        have hP : va_P g.1 vwCl (List.flatten [kMo g a_mo a_ms a_mwas a_mtried a_msaved a_mpast a_mfar a_mdrift a_mline a_mtape a_mcommands m_changes m_thrown m_errorAt m_failedAt m_answer m_isSaved m_lined m_taped m_here_v7 m_commandMany, kAr g a_mtape 60 m_tape, kAr g a_mcommands 155 m_commands]) H := hP
        have hD : va_D A (List.flatten [kMo g a_mo a_ms a_mwas a_mtried a_msaved a_mpast a_mfar a_mdrift a_mline a_mtape a_mcommands m_changes m_thrown m_errorAt m_failedAt m_answer m_isSaved m_lined m_taped m_here_v7 m_commandMany, kAr g a_mtape 60 m_tape, kAr g a_mcommands 155 m_commands]) := hD
        refine lv_if_eq (tgt := 88) hx hb dX7_readsRest_70 (by decide) (fun c_70 => ?_) (fun c_70 => ?_)
        · have hw := hw.1 c_70
          refine lv_iconst (v := 0) hx hb dX7_readsRest_88 (by decide) ?_
          subst hQ
          exact W.zret (ty := .boolean) hx hb hr (by decide) (gRi2 (c1 := m_here_v7) (c2 := m_commands) (wf := _) hA0 hsz hw hP hD hS) hS.2.2 dX7_readsRest_89
        · have hw := hw.2 c_70
          refine lv_aload_n hx hb dX7_readsRest_73 rfl (lv_at hl 0 rfl) ?_
          refine lv_iconst (v := 1) hx hb dX7_readsRest_74 (by decide) ?_
          refine lv_iload_n hx hb dX7_readsRest_75 rfl (lv_at hl 2 rfl) ?_
          refine lv_iconst (v := 1) hx hb dX7_readsRest_76 (by decide) ?_
          refine lv_iadd hx hb dX7_readsRest_77 ?_
          refine gCi2 (gRunV (As := [.int 1, .int (x2 + 1)]) (rest := []) ⟨hx, hb, hml, hown, hts⟩ (ctX7_isNumber l g a_mo a_ms a_mwas a_mtried a_msaved a_mpast a_mfar a_mdrift a_mline a_mtape a_mcommands _ m_changes m_thrown m_errorAt m_failedAt m_answer m_isSaved m_lined m_taped m_here_v7 m_commandMany m_tape m_commands 1 (x2 + 1) hw) (cwV 2 hts gX7_readsRest_X7_isNumber rfl rfl rfl (by decide +kernel) ⟨Nat.le_of_ble_eq_true rfl, Nat.le_of_ble_eq_true rfl⟩) hE (gSub hP [0, 1, 2]) (gDSub hD [0, 1, 2] rfl) 0 11 rfl rfl rfl rfl rfl hl.1 rfl (lv_room (Nat.le_of_ble_eq_true rfl)) dX7_readsRest_78 ⟨Nat.le_of_ble_eq_true rfl, Nat.le_of_ble_eq_true rfl⟩) hP hD hS hA [0, 1, 2] rfl (fun _ _ => rfl) rfl (fun r8 m_here_v8 m_commands_v8 H locs hw hP hD hS => ?_)
          have hP : va_P g.1 vwCl (List.flatten [kMo g a_mo a_ms a_mwas a_mtried a_msaved a_mpast a_mfar a_mdrift a_mline a_mtape a_mcommands m_changes m_thrown m_errorAt m_failedAt m_answer m_isSaved m_lined m_taped m_here_v8 m_commandMany, kAr g a_mtape 60 m_tape, kAr g a_mcommands 155 m_commands_v8]) H := hP
          have hD : va_D A (List.flatten [kMo g a_mo a_ms a_mwas a_mtried a_msaved a_mpast a_mfar a_mdrift a_mline a_mtape a_mcommands m_changes m_thrown m_errorAt m_failedAt m_answer m_isSaved m_lined m_taped m_here_v8 m_commandMany, kAr g a_mtape 60 m_tape, kAr g a_mcommands 155 m_commands_v8]) := hD
          refine lv_if_eq (tgt := 88) hx hb dX7_readsRest_81 (by decide) (fun c_81 => ?_) (fun c_81 => ?_)
          · have hw := hw.1 c_81
            refine lv_iconst (v := 0) hx hb dX7_readsRest_88 (by decide) ?_
            subst hQ
            exact W.zret (ty := .boolean) hx hb hr (by decide) (gRi2 (c1 := m_here_v8) (c2 := m_commands_v8) (wf := _) hA0 hsz hw hP hD hS) hS.2.2 dX7_readsRest_89
          · have hw := hw.2 c_81
            refine lv_iconst (v := 1) hx hb dX7_readsRest_84 (by decide) ?_
            refine lv_goto (tgt := 89) hx hb dX7_readsRest_85 (by decide) ?_
            subst hQ
            exact W.zret (ty := .boolean) hx hb hr (by decide) (gRi2 (c1 := m_here_v8) (c2 := m_commands_v8) (wf := _) hA0 hsz hw hP hD hS) hS.2.2 dX7_readsRest_89
      · have hw := hw.2 c_1_2
        by_cases c_1_3 : x1 = 115
        · have hw := hw.1 c_1_3
          refine lv_lookup (off := 51) (tgt := 52) hx hb dX7_readsRest_1 rfl (gLk c_1_3 rfl) (by decide) ?_
          refine lv_aload_n hx hb dX7_readsRest_52 rfl (lv_at hl 0 rfl) ?_
          refine lv_iload_n hx hb dX7_readsRest_53 rfl (lv_at hl 2 rfl) ?_
          refine gCi2 (gRunVX (As := [.int x2]) (rest := []) ⟨hx, hb, hml, hown, hts⟩ (ctX7_readsS l g t a_mo a_ms a_mwas a_mtried a_msaved a_mpast a_mfar a_mdrift a_mline a_mtape a_mcommands _ m_changes m_thrown m_errorAt m_failedAt m_answer m_isSaved m_lined m_taped m_here m_commandMany m_tape m_commands x2 hw) (cwV 1 hts gX7_readsRest_X7_readsS rfl rfl rfl (by decide +kernel) ⟨Nat.le_of_ble_eq_true rfl, Nat.le_of_ble_eq_true rfl⟩) hE hX hS (gFree hD hS hA [0, 1, 2]) (gSub hP [0, 1, 2]) (gDSub hD [0, 1, 2] rfl) 0 11 rfl rfl rfl rfl rfl hl.1 rfl (lv_room (Nat.le_of_ble_eq_true rfl)) dX7_readsRest_54 ⟨Nat.le_of_ble_eq_true rfl, Nat.le_of_ble_eq_true rfl⟩) hP hD hS hA [0, 1, 2] rfl (fun _ _ => rfl) rfl (fun r9 m_here_v9 m_commands_v9 H locs hw hP hD hS => ?_)
          have hP : va_P g.1 vwCl (List.flatten [kMo g a_mo a_ms a_mwas a_mtried a_msaved a_mpast a_mfar a_mdrift a_mline a_mtape a_mcommands m_changes m_thrown m_errorAt m_failedAt m_answer m_isSaved m_lined m_taped m_here_v9 m_commandMany, kAr g a_mtape 60 m_tape, kAr g a_mcommands 155 m_commands_v9]) H := hP
          have hD : va_D A (List.flatten [kMo g a_mo a_ms a_mwas a_mtried a_msaved a_mpast a_mfar a_mdrift a_mline a_mtape a_mcommands m_changes m_thrown m_errorAt m_failedAt m_answer m_isSaved m_lined m_taped m_here_v9 m_commandMany, kAr g a_mtape 60 m_tape, kAr g a_mcommands 155 m_commands_v9]) := hD
          have h10 := hw.1
          have hw := hw.2
          subst hQ
          exact W.zret (ty := .boolean) hx hb hr h10 (gRi2 (c1 := m_here_v9) (c2 := m_commands_v9) (wf := _) hA0 hsz hw hP hD hS) hS.2.2 dX7_readsRest_57
        · have hw := hw.2 c_1_3
          by_cases c_1_4 : x1 = 119
          · have hw := hw.1 c_1_4
            refine lv_lookup (off := 57) (tgt := 58) hx hb dX7_readsRest_1 rfl (gLk c_1_4 rfl) (by decide) ?_
            refine lv_aload_n hx hb dX7_readsRest_58 rfl (lv_at hl 0 rfl) ?_
            refine lv_iload_n hx hb dX7_readsRest_59 rfl (lv_at hl 2 rfl) ?_
            refine gCi2 (gRunVX (As := [.int x2]) (rest := []) ⟨hx, hb, hml, hown, hts⟩ (ctX7_readsW l g t a_mo a_ms a_mwas a_mtried a_msaved a_mpast a_mfar a_mdrift a_mline a_mtape a_mcommands _ m_changes m_thrown m_errorAt m_failedAt m_answer m_isSaved m_lined m_taped m_here m_commandMany m_tape m_commands x2 hw) (cwV 1 hts gX7_readsRest_X7_readsW rfl rfl rfl (by decide +kernel) ⟨Nat.le_of_ble_eq_true rfl, Nat.le_of_ble_eq_true rfl⟩) hE hX hS (gFree hD hS hA [0, 1, 2]) (gSub hP [0, 1, 2]) (gDSub hD [0, 1, 2] rfl) 0 11 rfl rfl rfl rfl rfl hl.1 rfl (lv_room (Nat.le_of_ble_eq_true rfl)) dX7_readsRest_60 ⟨Nat.le_of_ble_eq_true rfl, Nat.le_of_ble_eq_true rfl⟩) hP hD hS hA [0, 1, 2] rfl (fun _ _ => rfl) rfl (fun r11 m_here_v11 m_commands_v11 H locs hw hP hD hS => ?_)
            have hP : va_P g.1 vwCl (List.flatten [kMo g a_mo a_ms a_mwas a_mtried a_msaved a_mpast a_mfar a_mdrift a_mline a_mtape a_mcommands m_changes m_thrown m_errorAt m_failedAt m_answer m_isSaved m_lined m_taped m_here_v11 m_commandMany, kAr g a_mtape 60 m_tape, kAr g a_mcommands 155 m_commands_v11]) H := hP
            have hD : va_D A (List.flatten [kMo g a_mo a_ms a_mwas a_mtried a_msaved a_mpast a_mfar a_mdrift a_mline a_mtape a_mcommands m_changes m_thrown m_errorAt m_failedAt m_answer m_isSaved m_lined m_taped m_here_v11 m_commandMany, kAr g a_mtape 60 m_tape, kAr g a_mcommands 155 m_commands_v11]) := hD
            have h12 := hw.1
            have hw := hw.2
            subst hQ
            exact W.zret (ty := .boolean) hx hb hr h12 (gRi2 (c1 := m_here_v11) (c2 := m_commands_v11) (wf := _) hA0 hsz hw hP hD hS) hS.2.2 dX7_readsRest_63
          · have hw := hw.2 c_1_4
            refine lv_lookup (off := 161) (tgt := 162) hx hb dX7_readsRest_1 rfl ((lv_osw c_1_0 rfl).trans ((lv_osw c_1_1 rfl).trans ((lv_osw c_1_2 rfl).trans ((lv_osw c_1_3 rfl).trans ((lv_osw c_1_4 rfl).trans rfl))))) (by decide) ?_
            refine lv_aload_n hx hb dX7_readsRest_162 rfl (lv_at hl 0 rfl) ?_
            refine va_ldcS hx hb hown (hX.txt 17 rfl) dX7_readsRest_163 ?_
            refine gCi1 (gRunVX (As := [.ref (t.1 17)]) (rest := []) ⟨hx, hb, hml, hown, hts⟩ (ctX7_isWord l g t a_mo a_ms a_mwas a_mtried a_msaved a_mpast a_mfar a_mdrift a_mline a_mtape a_mcommands _ m_changes m_thrown m_errorAt m_failedAt m_answer m_isSaved m_lined m_taped m_here m_commandMany m_tape 17 (gLen.getD 17 0) (fun j => (gByt.getD 17 []).getD j 0) ⟨by decide, rfl, rfl⟩ hw) (cwV 1 hts gX7_readsRest_X7_isWord rfl rfl rfl (by decide +kernel) ⟨Nat.le_of_ble_eq_true rfl, Nat.le_of_ble_eq_true rfl⟩) hE hX hS (gFree hD hS hA [0, 1]) (gSub hP [0, 1]) (gDSub hD [0, 1] rfl) 0 11 rfl rfl rfl rfl rfl hl.1 rfl (lv_room (Nat.le_of_ble_eq_true rfl)) dX7_readsRest_165 ⟨Nat.le_of_ble_eq_true rfl, Nat.le_of_ble_eq_true rfl⟩) hP hD hS hA [0, 1] rfl (fun _ => rfl) rfl (fun r13 m_here_v13 H locs hw hP hD hS => ?_)
            have hP : va_P g.1 vwCl (List.flatten [kMo g a_mo a_ms a_mwas a_mtried a_msaved a_mpast a_mfar a_mdrift a_mline a_mtape a_mcommands m_changes m_thrown m_errorAt m_failedAt m_answer m_isSaved m_lined m_taped m_here_v13 m_commandMany, kAr g a_mtape 60 m_tape, kAr g a_mcommands 155 m_commands]) H := hP
            have hD : va_D A (List.flatten [kMo g a_mo a_ms a_mwas a_mtried a_msaved a_mpast a_mfar a_mdrift a_mline a_mtape a_mcommands m_changes m_thrown m_errorAt m_failedAt m_answer m_isSaved m_lined m_taped m_here_v13 m_commandMany, kAr g a_mtape 60 m_tape, kAr g a_mcommands 155 m_commands]) := hD
            refine lv_if_eq (tgt := 186) hx hb dX7_readsRest_168 (by decide) (fun c_168 => ?_) (fun c_168 => ?_)
            · have hw := hw.1 c_168
              refine lv_iconst (v := 0) hx hb dX7_readsRest_186 (by decide) ?_
              subst hQ
              exact W.zret (ty := .boolean) hx hb hr (by decide) (gRi2 (c1 := m_here_v13) (c2 := m_commands) (wf := _) hA0 hsz hw hP hD hS) hS.2.2 dX7_readsRest_187
            · have hw := hw.2 c_168
              refine lv_aload_n hx hb dX7_readsRest_171 rfl (lv_at hl 0 rfl) ?_
              refine lv_iconst (v := 3) hx hb dX7_readsRest_172 (by decide) ?_
              refine lv_iload_n hx hb dX7_readsRest_173 rfl (lv_at hl 2 rfl) ?_
              refine lv_iconst (v := 1) hx hb dX7_readsRest_174 (by decide) ?_
              refine lv_iadd hx hb dX7_readsRest_175 ?_
              refine gCi2 (gRunV (As := [.int 3, .int (x2 + 1)]) (rest := []) ⟨hx, hb, hml, hown, hts⟩ (ctX7_isNumber l g a_mo a_ms a_mwas a_mtried a_msaved a_mpast a_mfar a_mdrift a_mline a_mtape a_mcommands _ m_changes m_thrown m_errorAt m_failedAt m_answer m_isSaved m_lined m_taped m_here_v13 m_commandMany m_tape m_commands 3 (x2 + 1) hw) (cwV 2 hts gX7_readsRest_X7_isNumber rfl rfl rfl (by decide +kernel) ⟨Nat.le_of_ble_eq_true rfl, Nat.le_of_ble_eq_true rfl⟩) hE (gSub hP [0, 1, 2]) (gDSub hD [0, 1, 2] rfl) 0 11 rfl rfl rfl rfl rfl hl.1 rfl (lv_room (Nat.le_of_ble_eq_true rfl)) dX7_readsRest_176 ⟨Nat.le_of_ble_eq_true rfl, Nat.le_of_ble_eq_true rfl⟩) hP hD hS hA [0, 1, 2] rfl (fun _ _ => rfl) rfl (fun r14 m_here_v14 m_commands_v14 H locs hw hP hD hS => ?_)
              have hP : va_P g.1 vwCl (List.flatten [kMo g a_mo a_ms a_mwas a_mtried a_msaved a_mpast a_mfar a_mdrift a_mline a_mtape a_mcommands m_changes m_thrown m_errorAt m_failedAt m_answer m_isSaved m_lined m_taped m_here_v14 m_commandMany, kAr g a_mtape 60 m_tape, kAr g a_mcommands 155 m_commands_v14]) H := hP
              have hD : va_D A (List.flatten [kMo g a_mo a_ms a_mwas a_mtried a_msaved a_mpast a_mfar a_mdrift a_mline a_mtape a_mcommands m_changes m_thrown m_errorAt m_failedAt m_answer m_isSaved m_lined m_taped m_here_v14 m_commandMany, kAr g a_mtape 60 m_tape, kAr g a_mcommands 155 m_commands_v14]) := hD
              refine lv_if_eq (tgt := 186) hx hb dX7_readsRest_179 (by decide) (fun c_179 => ?_) (fun c_179 => ?_)
              · have hw := hw.1 c_179
                refine lv_iconst (v := 0) hx hb dX7_readsRest_186 (by decide) ?_
                subst hQ
                exact W.zret (ty := .boolean) hx hb hr (by decide) (gRi2 (c1 := m_here_v14) (c2 := m_commands_v14) (wf := _) hA0 hsz hw hP hD hS) hS.2.2 dX7_readsRest_187
              · have hw := hw.2 c_179
                refine lv_iconst (v := 1) hx hb dX7_readsRest_182 (by decide) ?_
                refine lv_goto (tgt := 187) hx hb dX7_readsRest_183 (by decide) ?_
                subst hQ
                exact W.zret (ty := .boolean) hx hb hr (by decide) (gRi2 (c1 := m_here_v14) (c2 := m_commands_v14) (wf := _) hA0 hsz hw hP hD hS) hS.2.2 dX7_readsRest_187
abbrev rmX7_readsCommand : Room := { frames := 8, cells := 0, slots := 0, locals := 257 }
set_option maxRecDepth 20000 in
theorem inX7_readsCommand_X7 : ∀ w ∈ wsX70, w ∈ wsX7_readsCommand := by decide +kernel
set_option maxHeartbeats 4000000 in
set_option maxRecDepth 100000 in
theorem ctX7_readsCommand (l : Launch) (g : GG) (t : GT) (a_mo : Nat → Nat) (a_ms : Nat → Nat) (a_mwas : Nat → Nat) (a_mtried : Nat → Nat) (a_msaved : Nat → Nat) (a_mpast : Nat → Nat) (a_mfar : Nat → Nat) (a_mdrift : Nat → Nat) (a_mline : Nat → Nat) (a_mtape : Nat → Nat) (a_mcommands : Nat → Nat) (sz : Nat) (m_changes : Int32) (m_thrown : Int32) (m_errorAt : Int32) (m_failedAt : Int32) (m_answer : Int32) (m_isSaved : Int32) (m_lined : Int32) (m_taped : Int32) (m_here : Int32) (m_commandMany : Int32) (m_tape : Nat → Int32) (m_commands : Nat → Int32) {post : Int32 → Int32 → Int32 → (Nat → Int32) → Prop} (hw : wpX7_readsCommand m_taped m_here m_commandMany m_tape m_commands post) :
    Met l yX7_readsCommand wsX7_readsCommand rmX7_readsCommand (gPX g t sz (List.flatten [kMo g a_mo a_ms a_mwas a_mtried a_msaved a_mpast a_mfar a_mdrift a_mline a_mtape a_mcommands m_changes m_thrown m_errorAt m_failedAt m_answer m_isSaved m_lined m_taped m_here m_commandMany, kAr g a_mtape 60 m_tape, kAr g a_mcommands 155 m_commands]) [.ref (a_mo 0)]) (gQi3 post (fun u1 u2 u3 => gB g (List.flatten [kMo g a_mo a_ms a_mwas a_mtried a_msaved a_mpast a_mfar a_mdrift a_mline a_mtape a_mcommands m_changes m_thrown m_errorAt m_failedAt m_answer m_isSaved m_lined m_taped m_here m_commandMany, kAr g a_mtape 60 m_tape, kAr g a_mcommands 155 m_commands]) sz (List.flatten [kMo g a_mo a_ms a_mwas a_mtried a_msaved a_mpast a_mfar a_mdrift a_mline a_mtape a_mcommands m_changes m_thrown m_errorAt m_failedAt m_answer m_isSaved m_lined m_taped u1 u2, kAr g a_mtape 60 m_tape, kAr g a_mcommands 155 u3])) (va_A (List.flatten [kMo g a_mo a_ms a_mwas a_mtried a_msaved a_mpast a_mfar a_mdrift a_mline a_mtape a_mcommands m_changes m_thrown m_errorAt m_failedAt m_answer m_isSaved m_lined m_taped m_here m_commandMany, kAr g a_mtape 60 m_tape, kAr g a_mcommands 155 m_commands]) sz)) 0 0 (va_A (List.flatten [kMo g a_mo a_ms a_mwas a_mtried a_msaved a_mpast a_mfar a_mdrift a_mline a_mtape a_mcommands m_changes m_thrown m_errorAt m_failedAt m_answer m_isSaved m_lined m_taped m_here m_commandMany, kAr g a_mtape 60 m_tape, kAr g a_mcommands 155 m_commands]) sz) := by
  refine gOfX (cc := cX7_readsCommand) (maxL := 3) (ret := (some .boolean)) (by decide) rfl (Nat.le_of_ble_eq_true rfl) ?_
  intro p e s m below meth c ls Q A hQ hx hb hr hml hts hown hlocks hE hA0 hsz hP hD hA hS hl hX
  have hl : lv_has ls 3 [(0, .ref (a_mo 0))] := hl
  refine lv_iconst (v := 5) hx hb dX7_readsCommand_0 (by decide) ?_
  refine lv_aload_n hx hb dX7_readsCommand_1 rfl (lv_at hl 0 rfl) ?_
  refine va_get (D := g.1) (ci := 11) (v := .int m_commandMany) (C := RX7) (T := TX7) (N := 20) hx hb hts inX7_readsCommand_X7 hown hE.1 hP 0 rfl rfl 19 (by decide) (gW hts 1 (.fieldLink RX7 245 "SnowDispatcherModel" "commandMany" "I") rfl) (fun _ h9 => h9) rfl dX7_readsCommand_2 ?_
  refine lv_imul hx hb dX7_readsCommand_5 ?_
  refine lv_istore_n (lv' := [(1, .int (5 * m_commandMany)), (0, .ref (a_mo 0))]) hx hb dX7_readsCommand_6 rfl hl (by decide) rfl (fun ls hl => ?_)
  refine lv_aload_n hx hb dX7_readsCommand_7 rfl (lv_at hl 1 rfl) ?_
  refine gCi0 (gRunV (As := []) (rest := []) ⟨hx, hb, hml, hown, hts⟩ (ctX7_sign l g a_mo a_ms a_mwas a_mtried a_msaved a_mpast a_mfar a_mdrift a_mline a_mtape a_mcommands _ m_changes m_thrown m_errorAt m_failedAt m_answer m_isSaved m_lined m_taped m_here m_commandMany m_tape hw) (cwV 0 hts gX7_readsCommand_X7_sign rfl rfl rfl (by decide +kernel) ⟨Nat.le_of_ble_eq_true rfl, Nat.le_of_ble_eq_true rfl⟩) hE (gSub hP [0, 1]) (gDSub hD [0, 1] rfl) 0 11 rfl rfl rfl rfl rfl hl.1 rfl (lv_room (Nat.le_of_ble_eq_true rfl)) dX7_readsCommand_8 ⟨Nat.le_of_ble_eq_true rfl, Nat.le_of_ble_eq_true rfl⟩) hP hD hS hA [0, 1] rfl rfl rfl (fun r1 H locs hw hP hD hS => ?_)
  have hP : va_P g.1 vwCl (List.flatten [kMo g a_mo a_ms a_mwas a_mtried a_msaved a_mpast a_mfar a_mdrift a_mline a_mtape a_mcommands m_changes m_thrown m_errorAt m_failedAt m_answer m_isSaved m_lined m_taped m_here m_commandMany, kAr g a_mtape 60 m_tape, kAr g a_mcommands 155 m_commands]) H := hP
  have hD : va_D A (List.flatten [kMo g a_mo a_ms a_mwas a_mtried a_msaved a_mpast a_mfar a_mdrift a_mline a_mtape a_mcommands m_changes m_thrown m_errorAt m_failedAt m_answer m_isSaved m_lined m_taped m_here m_commandMany, kAr g a_mtape 60 m_tape, kAr g a_mcommands 155 m_commands]) := hD
  refine lv_istore_n (lv' := [(2, .int r1), (1, .int (5 * m_commandMany)), (0, .ref (a_mo 0))]) hx hb dX7_readsCommand_11 rfl hl (by decide) rfl (fun ls hl => ?_)
  refine lv_iload_n hx hb dX7_readsCommand_12 rfl (lv_at hl 0 rfl) ?_
  refine gCi0 (gRunS (As := [.int r1]) (rest := []) ⟨hx, hb, hml, hown, hts⟩ (ctX7_isFirst l g _ r1 hw) (va_cwS 1 hts gX7_readsCommand_X7_isFirst rfl rfl rfl (by decide +kernel) ⟨Nat.le_of_ble_eq_true rfl, Nat.le_of_ble_eq_true rfl⟩) hE (gSub hP []) (gDSub hD [] rfl) rfl rfl hl.1 rfl (lv_room (Nat.le_of_ble_eq_true rfl)) dX7_readsCommand_13 ⟨Nat.le_of_ble_eq_true rfl, Nat.le_of_ble_eq_true rfl⟩) hP hD hS hA [] rfl rfl rfl (fun r2 H locs hw hP hD hS => ?_)
  have hP : va_P g.1 vwCl (List.flatten [kMo g a_mo a_ms a_mwas a_mtried a_msaved a_mpast a_mfar a_mdrift a_mline a_mtape a_mcommands m_changes m_thrown m_errorAt m_failedAt m_answer m_isSaved m_lined m_taped m_here m_commandMany, kAr g a_mtape 60 m_tape, kAr g a_mcommands 155 m_commands]) H := hP
  have hD : va_D A (List.flatten [kMo g a_mo a_ms a_mwas a_mtried a_msaved a_mpast a_mfar a_mdrift a_mline a_mtape a_mcommands m_changes m_thrown m_errorAt m_failedAt m_answer m_isSaved m_lined m_taped m_here m_commandMany, kAr g a_mtape 60 m_tape, kAr g a_mcommands 155 m_commands]) := hD
  refine lv_if_ne (tgt := 21) hx hb dX7_readsCommand_16 (by decide) (fun c_16 => ?_) (fun c_16 => ?_)
  · have hw := hw.1 c_16
    refine lv_aload_n hx hb dX7_readsCommand_21 rfl (lv_at hl 2 rfl) ?_
    refine va_get (D := g.1) (ci := 11) (v := .ref (a_mcommands 0)) (C := RX7) (T := TX7) (N := 20) hx hb hts inX7_readsCommand_X7 hown hE.1 hP 0 rfl rfl 16 (by decide) (gW hts 2 (.fieldLink RX7 44 "SnowDispatcherModel" "commands" "[I") rfl) (fun _ h9 => h9) rfl dX7_readsCommand_22 ?_
    refine lv_iload_n hx hb dX7_readsCommand_25 rfl (lv_at hl 1 rfl) ?_
    refine lv_iload_n hx hb dX7_readsCommand_26 rfl (lv_at hl 0 rfl) ?_
    have h3 := hw.1
    have hw := hw.2
    refine va_iast hx hb hE.1 hP hD hS 2 0 rfl rfl h3 dX7_readsCommand_27 (fun H locs hP hD hS => ?_)
    have hP : va_P g.1 vwCl (List.flatten [kMo g a_mo a_ms a_mwas a_mtried a_msaved a_mpast a_mfar a_mdrift a_mline a_mtape a_mcommands m_changes m_thrown m_errorAt m_failedAt m_answer m_isSaved m_lined m_taped m_here m_commandMany, kAr g a_mtape 60 m_tape, kAr g a_mcommands 155 (upd m_commands (5 * m_commandMany).toNatClampNeg r1)]) H := hP
    have hD : va_D A (List.flatten [kMo g a_mo a_ms a_mwas a_mtried a_msaved a_mpast a_mfar a_mdrift a_mline a_mtape a_mcommands m_changes m_thrown m_errorAt m_failedAt m_answer m_isSaved m_lined m_taped m_here m_commandMany, kAr g a_mtape 60 m_tape, kAr g a_mcommands 155 (upd m_commands (5 * m_commandMany).toNatClampNeg r1)]) := hD
    refine lv_aload_n hx hb dX7_readsCommand_28 rfl (lv_at hl 2 rfl) ?_
    refine lv_dup hx hb dX7_readsCommand_29 rfl ?_
    refine va_get (D := g.1) (ci := 11) (v := .int m_here) (C := RX7) (T := TX7) (N := 20) hx hb hts inX7_readsCommand_X7 hown hE.1 hP 0 rfl rfl 18 (by decide) (gW hts 3 (.fieldLink RX7 192 "SnowDispatcherModel" "here" "I") rfl) (fun _ h9 => h9) rfl dX7_readsCommand_30 ?_
    refine lv_iconst (v := 1) hx hb dX7_readsCommand_33 (by decide) ?_
    refine lv_iadd hx hb dX7_readsCommand_34 ?_
    refine va_put (D := g.1) (ci := 11) (v := .int (m_here + 1)) (ty := .int) (C := RX7) (T := TX7) (N := 20) hx hb hts inX7_readsCommand_X7 tyX7 tyX7_ok nmX7 hown hE.1 hP hD hS 0 rfl rfl 18 (by decide) (gW hts 3 (.fieldLink RX7 192 "SnowDispatcherModel" "here" "I") rfl) (fun _ h9 => h9) rfl (by decide +kernel) rfl rfl (Nat.le_of_ble_eq_true rfl) dX7_readsCommand_35 (fun H locs hP hD hS => ?_)
    have hP : va_P g.1 vwCl (List.flatten [kMo g a_mo a_ms a_mwas a_mtried a_msaved a_mpast a_mfar a_mdrift a_mline a_mtape a_mcommands m_changes m_thrown m_errorAt m_failedAt m_answer m_isSaved m_lined m_taped (m_here + 1) m_commandMany, kAr g a_mtape 60 m_tape, kAr g a_mcommands 155 (upd m_commands (5 * m_commandMany).toNatClampNeg r1)]) H := hP
    have hD : va_D A (List.flatten [kMo g a_mo a_ms a_mwas a_mtried a_msaved a_mpast a_mfar a_mdrift a_mline a_mtape a_mcommands m_changes m_thrown m_errorAt m_failedAt m_answer m_isSaved m_lined m_taped (m_here + 1) m_commandMany, kAr g a_mtape 60 m_tape, kAr g a_mcommands 155 (upd m_commands (5 * m_commandMany).toNatClampNeg r1)]) := hD
    refine lv_aload_n hx hb dX7_readsCommand_38 rfl (lv_at hl 2 rfl) ?_
    refine lv_dup hx hb dX7_readsCommand_39 rfl ?_
    refine va_get (D := g.1) (ci := 11) (v := .int m_commandMany) (C := RX7) (T := TX7) (N := 20) hx hb hts inX7_readsCommand_X7 hown hE.1 hP 0 rfl rfl 19 (by decide) (gW hts 1 (.fieldLink RX7 245 "SnowDispatcherModel" "commandMany" "I") rfl) (fun _ h9 => h9) rfl dX7_readsCommand_40 ?_
    refine lv_iconst (v := 1) hx hb dX7_readsCommand_43 (by decide) ?_
    refine lv_iadd hx hb dX7_readsCommand_44 ?_
    refine va_put (D := g.1) (ci := 11) (v := .int (m_commandMany + 1)) (ty := .int) (C := RX7) (T := TX7) (N := 20) hx hb hts inX7_readsCommand_X7 tyX7 tyX7_ok nmX7 hown hE.1 hP hD hS 0 rfl rfl 19 (by decide) (gW hts 1 (.fieldLink RX7 245 "SnowDispatcherModel" "commandMany" "I") rfl) (fun _ h9 => h9) rfl (by decide +kernel) rfl rfl (Nat.le_of_ble_eq_true rfl) dX7_readsCommand_45 (fun H locs hP hD hS => ?_)
    have hP : va_P g.1 vwCl (List.flatten [kMo g a_mo a_ms a_mwas a_mtried a_msaved a_mpast a_mfar a_mdrift a_mline a_mtape a_mcommands m_changes m_thrown m_errorAt m_failedAt m_answer m_isSaved m_lined m_taped (m_here + 1) (m_commandMany + 1), kAr g a_mtape 60 m_tape, kAr g a_mcommands 155 (upd m_commands (5 * m_commandMany).toNatClampNeg r1)]) H := hP
    have hD : va_D A (List.flatten [kMo g a_mo a_ms a_mwas a_mtried a_msaved a_mpast a_mfar a_mdrift a_mline a_mtape a_mcommands m_changes m_thrown m_errorAt m_failedAt m_answer m_isSaved m_lined m_taped (m_here + 1) (m_commandMany + 1), kAr g a_mtape 60 m_tape, kAr g a_mcommands 155 (upd m_commands (5 * m_commandMany).toNatClampNeg r1)]) := hD
    refine lv_aload_n hx hb dX7_readsCommand_48 rfl (lv_at hl 2 rfl) ?_
    refine lv_iload_n hx hb dX7_readsCommand_49 rfl (lv_at hl 0 rfl) ?_
    refine lv_iload_n hx hb dX7_readsCommand_50 rfl (lv_at hl 1 rfl) ?_
    refine gCi2 (gRunVX (As := [.int r1, .int (5 * m_commandMany)]) (rest := []) ⟨hx, hb, hml, hown, hts⟩ (ctX7_readsRest l g t a_mo a_ms a_mwas a_mtried a_msaved a_mpast a_mfar a_mdrift a_mline a_mtape a_mcommands _ m_changes m_thrown m_errorAt m_failedAt m_answer m_isSaved m_lined m_taped (m_here + 1) (m_commandMany + 1) m_tape (upd m_commands (5 * m_commandMany).toNatClampNeg r1) r1 (5 * m_commandMany) hw) (cwV 2 hts gX7_readsCommand_X7_readsRest rfl rfl rfl (by decide +kernel) ⟨Nat.le_of_ble_eq_true rfl, Nat.le_of_ble_eq_true rfl⟩) hE hX hS (gFree hD hS hA [0, 1, 2]) (gSub hP [0, 1, 2]) (gDSub hD [0, 1, 2] rfl) 0 11 rfl rfl rfl rfl rfl hl.1 rfl (lv_room (Nat.le_of_ble_eq_true rfl)) dX7_readsCommand_51 ⟨Nat.le_of_ble_eq_true rfl, Nat.le_of_ble_eq_true rfl⟩) hP hD hS hA [0, 1, 2] rfl (fun _ _ => rfl) rfl (fun r4 m_here_v4 m_commands_v4 H locs hw hP hD hS => ?_)
    have hP : va_P g.1 vwCl (List.flatten [kMo g a_mo a_ms a_mwas a_mtried a_msaved a_mpast a_mfar a_mdrift a_mline a_mtape a_mcommands m_changes m_thrown m_errorAt m_failedAt m_answer m_isSaved m_lined m_taped m_here_v4 (m_commandMany + 1), kAr g a_mtape 60 m_tape, kAr g a_mcommands 155 m_commands_v4]) H := hP
    have hD : va_D A (List.flatten [kMo g a_mo a_ms a_mwas a_mtried a_msaved a_mpast a_mfar a_mdrift a_mline a_mtape a_mcommands m_changes m_thrown m_errorAt m_failedAt m_answer m_isSaved m_lined m_taped m_here_v4 (m_commandMany + 1), kAr g a_mtape 60 m_tape, kAr g a_mcommands 155 m_commands_v4]) := hD
    have h5 := hw.1
    have hw := hw.2
    subst hQ
    exact W.zret (ty := .boolean) hx hb hr h5 (gRi3 (c1 := m_here_v4) (c2 := (m_commandMany + 1)) (c3 := m_commands_v4) (wf := _) hA0 hsz hw hP hD hS) hS.2.2 dX7_readsCommand_54
  · have hw := hw.2 c_16
    refine lv_iconst (v := 0) hx hb dX7_readsCommand_19 (by decide) ?_
    subst hQ
    exact W.zret (ty := .boolean) hx hb hr (by decide) (gRi3 (c1 := m_here) (c2 := m_commandMany) (c3 := m_commands) (wf := _) hA0 hsz hw hP hD hS) hS.2.2 dX7_readsCommand_20
abbrev rmX7_isScript : Room := { frames := 9, cells := 0, slots := 0, locals := 280 }
set_option maxRecDepth 20000 in
theorem inX7_isScript_X7 : ∀ w ∈ wsX70, w ∈ wsX7_isScript := by decide +kernel
set_option maxHeartbeats 4000000 in
set_option maxRecDepth 100000 in
theorem ctX7_isScript (l : Launch) (g : GG) (t : GT) (a_mo : Nat → Nat) (a_ms : Nat → Nat) (a_mwas : Nat → Nat) (a_mtried : Nat → Nat) (a_msaved : Nat → Nat) (a_mpast : Nat → Nat) (a_mfar : Nat → Nat) (a_mdrift : Nat → Nat) (a_mline : Nat → Nat) (a_mtape : Nat → Nat) (a_mcommands : Nat → Nat) (sz : Nat) (m_changes : Int32) (m_thrown : Int32) (m_errorAt : Int32) (m_failedAt : Int32) (m_answer : Int32) (m_isSaved : Int32) (m_lined : Int32) (m_taped : Int32) (m_here : Int32) (m_commandMany : Int32) (m_tape : Nat → Int32) (m_commands : Nat → Int32) {post : Int32 → Int32 → Int32 → (Nat → Int32) → Prop} (hw : wpX7_isScript m_taped m_here m_commandMany m_tape m_commands post) :
    Met l yX7_isScript wsX7_isScript rmX7_isScript (gPX g t sz (List.flatten [kMo g a_mo a_ms a_mwas a_mtried a_msaved a_mpast a_mfar a_mdrift a_mline a_mtape a_mcommands m_changes m_thrown m_errorAt m_failedAt m_answer m_isSaved m_lined m_taped m_here m_commandMany, kAr g a_mtape 60 m_tape, kAr g a_mcommands 155 m_commands]) [.ref (a_mo 0)]) (gQi3 post (fun u1 u2 u3 => gB g (List.flatten [kMo g a_mo a_ms a_mwas a_mtried a_msaved a_mpast a_mfar a_mdrift a_mline a_mtape a_mcommands m_changes m_thrown m_errorAt m_failedAt m_answer m_isSaved m_lined m_taped m_here m_commandMany, kAr g a_mtape 60 m_tape, kAr g a_mcommands 155 m_commands]) sz (List.flatten [kMo g a_mo a_ms a_mwas a_mtried a_msaved a_mpast a_mfar a_mdrift a_mline a_mtape a_mcommands m_changes m_thrown m_errorAt m_failedAt m_answer m_isSaved m_lined m_taped u1 u2, kAr g a_mtape 60 m_tape, kAr g a_mcommands 155 u3])) (va_A (List.flatten [kMo g a_mo a_ms a_mwas a_mtried a_msaved a_mpast a_mfar a_mdrift a_mline a_mtape a_mcommands m_changes m_thrown m_errorAt m_failedAt m_answer m_isSaved m_lined m_taped m_here m_commandMany, kAr g a_mtape 60 m_tape, kAr g a_mcommands 155 m_commands]) sz)) 0 0 (va_A (List.flatten [kMo g a_mo a_ms a_mwas a_mtried a_msaved a_mpast a_mfar a_mdrift a_mline a_mtape a_mcommands m_changes m_thrown m_errorAt m_failedAt m_answer m_isSaved m_lined m_taped m_here m_commandMany, kAr g a_mtape 60 m_tape, kAr g a_mcommands 155 m_commands]) sz) := by
  refine gOfX (cc := cX7_isScript) (maxL := 2) (ret := (some .boolean)) (by decide) rfl (Nat.le_of_ble_eq_true rfl) ?_
  intro p e s m below meth c ls Q A hQ hx hb hr hml hts hown hlocks hE hA0 hsz hP hD hA hS hl hX
  have hl : lv_has ls 2 [(0, .ref (a_mo 0))] := hl
  have J36 : ∀ (x1_36 : Int32) (m_here_36 : Int32) (m_commandMany_36 : Int32) (m_commands_36 : Nat → Int32) (H : Heap) (locs : List Loc) (ls : Array Slot), wpX7_isScript_L36 m_taped m_tape post x1_36 m_here_36 m_commandMany_36 m_commands_36 → va_P g.1 vwCl (List.flatten [kMo g a_mo a_ms a_mwas a_mtried a_msaved a_mpast a_mfar a_mdrift a_mline a_mtape a_mcommands m_changes m_thrown m_errorAt m_failedAt m_answer m_isSaved m_lined m_taped m_here_36 m_commandMany_36, kAr g a_mtape 60 m_tape, kAr g a_mcommands 155 m_commands_36]) H → va_D A (List.flatten [kMo g a_mo a_ms a_mwas a_mtried a_msaved a_mpast a_mfar a_mdrift a_mline a_mtape a_mcommands m_changes m_thrown m_errorAt m_failedAt m_answer m_isSaved m_lined m_taped m_here_36 m_commandMany_36, kAr g a_mtape 60 m_tape, kAr g a_mcommands 155 m_commands_36]) → va_S A s.heap H locs → lv_has ls 2 [(0, .ref (a_mo 0)), (1, .int x1_36)] → W p l e rmX7_isScript s m (([.ref (a_mo 0)] : List Value).toArray) below meth c H locs 0 0 Q (F0 m 36 ls []) := by
    intro x1_36 m_here_36 m_commandMany_36 m_commands_36 H locs ls hw hP hD hS hl
    refine lv_iload_n hx hb dX7_isScript_36 rfl (lv_at hl 1 rfl) ?_
    refine lv_if_eq (tgt := 55) hx hb dX7_isScript_37 (by decide) (fun c_37 => ?_) (fun c_37 => ?_)
    · have hw := hw.1 c_37
      refine lv_iconst (v := 0) hx hb dX7_isScript_55 (by decide) ?_
      subst hQ
      exact W.zret (ty := .boolean) hx hb hr (by decide) (gRi3 (c1 := m_here_36) (c2 := m_commandMany_36) (c3 := m_commands_36) (wf := _) hA0 hsz hw hP hD hS) hS.2.2 dX7_isScript_56
    · have hw := hw.2 c_37
      refine lv_aload_n hx hb dX7_isScript_40 rfl (lv_at hl 0 rfl) ?_
      refine va_get (D := g.1) (ci := 11) (v := .int m_here_36) (C := RX7) (T := TX7) (N := 20) hx hb hts inX7_isScript_X7 hown hE.1 hP 0 rfl rfl 18 (by decide) (gW hts 1 (.fieldLink RX7 192 "SnowDispatcherModel" "here" "I") rfl) (fun _ h9 => h9) rfl dX7_isScript_41 ?_
      refine lv_aload_n hx hb dX7_isScript_44 rfl (lv_at hl 0 rfl) ?_
      refine va_get (D := g.1) (ci := 11) (v := .int m_taped) (C := RX7) (T := TX7) (N := 20) hx hb hts inX7_isScript_X7 hown hE.1 hP 0 rfl rfl 17 (by decide) (gW hts 3 (.fieldLink RX7 189 "SnowDispatcherModel" "taped" "I") rfl) (fun _ h9 => h9) rfl dX7_isScript_45 ?_
      refine lv_icmp_ne (tgt := 55) hx hb dX7_isScript_48 (by decide) (fun c_48 => ?_) (fun c_48 => ?_)
      · have hw := hw.1 c_48
        refine lv_iconst (v := 0) hx hb dX7_isScript_55 (by decide) ?_
        subst hQ
        exact W.zret (ty := .boolean) hx hb hr (by decide) (gRi3 (c1 := m_here_36) (c2 := m_commandMany_36) (c3 := m_commands_36) (wf := _) hA0 hsz hw hP hD hS) hS.2.2 dX7_isScript_56
      · have hw := hw.2 c_48
        refine lv_iconst (v := 1) hx hb dX7_isScript_51 (by decide) ?_
        refine lv_goto (tgt := 56) hx hb dX7_isScript_52 (by decide) ?_
        subst hQ
        exact W.zret (ty := .boolean) hx hb hr (by decide) (gRi3 (c1 := m_here_36) (c2 := m_commandMany_36) (c3 := m_commands_36) (wf := _) hA0 hsz hw hP hD hS) hS.2.2 dX7_isScript_56
  have L15 : ∀ (n : Nat) (x1_15 : Int32) (m_here_15 : Int32) (m_commandMany_15 : Int32) (m_commands_15 : Nat → Int32) (H : Heap) (locs : List Loc) (ls : Array Slot), wpX7_isScript_L15 m_taped m_tape post n x1_15 m_here_15 m_commandMany_15 m_commands_15 → va_P g.1 vwCl (List.flatten [kMo g a_mo a_ms a_mwas a_mtried a_msaved a_mpast a_mfar a_mdrift a_mline a_mtape a_mcommands m_changes m_thrown m_errorAt m_failedAt m_answer m_isSaved m_lined m_taped m_here_15 m_commandMany_15, kAr g a_mtape 60 m_tape, kAr g a_mcommands 155 m_commands_15]) H → va_D A (List.flatten [kMo g a_mo a_ms a_mwas a_mtried a_msaved a_mpast a_mfar a_mdrift a_mline a_mtape a_mcommands m_changes m_thrown m_errorAt m_failedAt m_answer m_isSaved m_lined m_taped m_here_15 m_commandMany_15, kAr g a_mtape 60 m_tape, kAr g a_mcommands 155 m_commands_15]) → va_S A s.heap H locs → lv_has ls 2 [(0, .ref (a_mo 0)), (1, .int x1_15)] → W p l e rmX7_isScript s m (([.ref (a_mo 0)] : List Value).toArray) below meth c H locs 0 0 Q (F0 m 15 ls []) := by
    intro n_15
    induction n_15 with
    | zero => intro x1_15 m_here_15 m_commandMany_15 m_commands_15 H locs ls hw; exact False.elim hw
    | succ n_15 ih_15 =>
      intro x1_15 m_here_15 m_commandMany_15 m_commands_15 H locs ls hw hP hD hS hl
      refine lv_iload_n hx hb dX7_isScript_15 rfl (lv_at hl 1 rfl) ?_
      refine lv_if_eq (tgt := 36) hx hb dX7_isScript_16 (by decide) (fun c_16 => ?_) (fun c_16 => ?_)
      · have hw := hw.1 c_16
        exact J36 x1_15 m_here_15 m_commandMany_15 m_commands_15 _ _ _ hw hP hD hS (lv_sub hl [0, 1] rfl)
      · have hw := hw.2 c_16
        refine lv_aload_n hx hb dX7_isScript_19 rfl (lv_at hl 0 rfl) ?_
        refine lv_bipush (v := 59) hx hb dX7_isScript_20 (by decide) ?_
        refine gCi1 (gRunV (As := [.int 59]) (rest := []) ⟨hx, hb, hml, hown, hts⟩ (ctX7_isSign l g a_mo a_ms a_mwas a_mtried a_msaved a_mpast a_mfar a_mdrift a_mline a_mtape a_mcommands _ m_changes m_thrown m_errorAt m_failedAt m_answer m_isSaved m_lined m_taped m_here_15 m_commandMany_15 m_tape 59 hw) (cwV 1 hts gX7_isScript_X7_isSign rfl rfl rfl (by decide +kernel) ⟨Nat.le_of_ble_eq_true rfl, Nat.le_of_ble_eq_true rfl⟩) hE (gSub hP [0, 1]) (gDSub hD [0, 1] rfl) 0 11 rfl rfl rfl rfl rfl hl.1 rfl (lv_room (Nat.le_of_ble_eq_true rfl)) dX7_isScript_22 ⟨Nat.le_of_ble_eq_true rfl, Nat.le_of_ble_eq_true rfl⟩) hP hD hS hA [0, 1] rfl (fun _ => rfl) rfl (fun r2 m_here_v2 H locs hw hP hD hS => ?_)
        have hP : va_P g.1 vwCl (List.flatten [kMo g a_mo a_ms a_mwas a_mtried a_msaved a_mpast a_mfar a_mdrift a_mline a_mtape a_mcommands m_changes m_thrown m_errorAt m_failedAt m_answer m_isSaved m_lined m_taped m_here_v2 m_commandMany_15, kAr g a_mtape 60 m_tape, kAr g a_mcommands 155 m_commands_15]) H := hP
        have hD : va_D A (List.flatten [kMo g a_mo a_ms a_mwas a_mtried a_msaved a_mpast a_mfar a_mdrift a_mline a_mtape a_mcommands m_changes m_thrown m_errorAt m_failedAt m_answer m_isSaved m_lined m_taped m_here_v2 m_commandMany_15, kAr g a_mtape 60 m_tape, kAr g a_mcommands 155 m_commands_15]) := hD
        refine lv_if_eq (tgt := 36) hx hb dX7_isScript_25 (by decide) (fun c_25 => ?_) (fun c_25 => ?_)
        · have hw := hw.1 c_25
          exact J36 x1_15 m_here_v2 m_commandMany_15 m_commands_15 _ _ _ hw hP hD hS (lv_sub hl [0, 1] rfl)
        · have hw := hw.2 c_25
          refine lv_aload_n hx hb dX7_isScript_28 rfl (lv_at hl 0 rfl) ?_
          refine gCi3 (gRunVX (As := []) (rest := []) ⟨hx, hb, hml, hown, hts⟩ (ctX7_readsCommand l g t a_mo a_ms a_mwas a_mtried a_msaved a_mpast a_mfar a_mdrift a_mline a_mtape a_mcommands _ m_changes m_thrown m_errorAt m_failedAt m_answer m_isSaved m_lined m_taped m_here_v2 m_commandMany_15 m_tape m_commands_15 hw) (cwV 0 hts gX7_isScript_X7_readsCommand rfl rfl rfl (by decide +kernel) ⟨Nat.le_of_ble_eq_true rfl, Nat.le_of_ble_eq_true rfl⟩) hE hX hS (gFree hD hS hA [0, 1, 2]) (gSub hP [0, 1, 2]) (gDSub hD [0, 1, 2] rfl) 0 11 rfl rfl rfl rfl rfl hl.1 rfl (lv_room (Nat.le_of_ble_eq_true rfl)) dX7_isScript_29 ⟨Nat.le_of_ble_eq_true rfl, Nat.le_of_ble_eq_true rfl⟩) hP hD hS hA [0, 1, 2] rfl (fun _ _ _ => rfl) rfl (fun r3 m_here_v3 m_commandMany_v3 m_commands_v3 H locs hw hP hD hS => ?_)
          have hP : va_P g.1 vwCl (List.flatten [kMo g a_mo a_ms a_mwas a_mtried a_msaved a_mpast a_mfar a_mdrift a_mline a_mtape a_mcommands m_changes m_thrown m_errorAt m_failedAt m_answer m_isSaved m_lined m_taped m_here_v3 m_commandMany_v3, kAr g a_mtape 60 m_tape, kAr g a_mcommands 155 m_commands_v3]) H := hP
          have hD : va_D A (List.flatten [kMo g a_mo a_ms a_mwas a_mtried a_msaved a_mpast a_mfar a_mdrift a_mline a_mtape a_mcommands m_changes m_thrown m_errorAt m_failedAt m_answer m_isSaved m_lined m_taped m_here_v3 m_commandMany_v3, kAr g a_mtape 60 m_tape, kAr g a_mcommands 155 m_commands_v3]) := hD
          refine lv_istore_n (lv' := [(1, .int r3), (0, .ref (a_mo 0))]) hx hb dX7_isScript_32 rfl hl (by decide) rfl (fun ls hl => ?_)
          refine lv_goto (tgt := 15) hx hb dX7_isScript_33 (by decide) ?_
          exact ih_15 r3 m_here_v3 m_commandMany_v3 m_commands_v3 _ _ _ hw hP hD hS (lv_sub hl [1, 0] rfl)
  refine lv_aload_n hx hb dX7_isScript_0 rfl (lv_at hl 0 rfl) ?_
  refine lv_iconst (v := 0) hx hb dX7_isScript_1 (by decide) ?_
  refine va_put (D := g.1) (ci := 11) (v := .int 0) (ty := .int) (C := RX7) (T := TX7) (N := 20) hx hb hts inX7_isScript_X7 tyX7 tyX7_ok nmX7 hown hE.1 hP hD hS 0 rfl rfl 18 (by decide) (gW hts 1 (.fieldLink RX7 192 "SnowDispatcherModel" "here" "I") rfl) (fun _ h9 => h9) rfl (by decide +kernel) rfl rfl (Nat.le_of_ble_eq_true rfl) dX7_isScript_2 (fun H locs hP hD hS => ?_)
  have hP : va_P g.1 vwCl (List.flatten [kMo g a_mo a_ms a_mwas a_mtried a_msaved a_mpast a_mfar a_mdrift a_mline a_mtape a_mcommands m_changes m_thrown m_errorAt m_failedAt m_answer m_isSaved m_lined m_taped 0 m_commandMany, kAr g a_mtape 60 m_tape, kAr g a_mcommands 155 m_commands]) H := hP
  have hD : va_D A (List.flatten [kMo g a_mo a_ms a_mwas a_mtried a_msaved a_mpast a_mfar a_mdrift a_mline a_mtape a_mcommands m_changes m_thrown m_errorAt m_failedAt m_answer m_isSaved m_lined m_taped 0 m_commandMany, kAr g a_mtape 60 m_tape, kAr g a_mcommands 155 m_commands]) := hD
  refine lv_aload_n hx hb dX7_isScript_5 rfl (lv_at hl 0 rfl) ?_
  refine lv_iconst (v := 0) hx hb dX7_isScript_6 (by decide) ?_
  refine va_put (D := g.1) (ci := 11) (v := .int 0) (ty := .int) (C := RX7) (T := TX7) (N := 20) hx hb hts inX7_isScript_X7 tyX7 tyX7_ok nmX7 hown hE.1 hP hD hS 0 rfl rfl 19 (by decide) (gW hts 2 (.fieldLink RX7 245 "SnowDispatcherModel" "commandMany" "I") rfl) (fun _ h9 => h9) rfl (by decide +kernel) rfl rfl (Nat.le_of_ble_eq_true rfl) dX7_isScript_7 (fun H locs hP hD hS => ?_)
  have hP : va_P g.1 vwCl (List.flatten [kMo g a_mo a_ms a_mwas a_mtried a_msaved a_mpast a_mfar a_mdrift a_mline a_mtape a_mcommands m_changes m_thrown m_errorAt m_failedAt m_answer m_isSaved m_lined m_taped 0 0, kAr g a_mtape 60 m_tape, kAr g a_mcommands 155 m_commands]) H := hP
  have hD : va_D A (List.flatten [kMo g a_mo a_ms a_mwas a_mtried a_msaved a_mpast a_mfar a_mdrift a_mline a_mtape a_mcommands m_changes m_thrown m_errorAt m_failedAt m_answer m_isSaved m_lined m_taped 0 0, kAr g a_mtape 60 m_tape, kAr g a_mcommands 155 m_commands]) := hD
  refine lv_aload_n hx hb dX7_isScript_10 rfl (lv_at hl 0 rfl) ?_
  refine gCi3 (gRunVX (As := []) (rest := []) ⟨hx, hb, hml, hown, hts⟩ (ctX7_readsCommand l g t a_mo a_ms a_mwas a_mtried a_msaved a_mpast a_mfar a_mdrift a_mline a_mtape a_mcommands _ m_changes m_thrown m_errorAt m_failedAt m_answer m_isSaved m_lined m_taped 0 0 m_tape m_commands hw) (cwV 0 hts gX7_isScript_X7_readsCommand rfl rfl rfl (by decide +kernel) ⟨Nat.le_of_ble_eq_true rfl, Nat.le_of_ble_eq_true rfl⟩) hE hX hS (gFree hD hS hA [0, 1, 2]) (gSub hP [0, 1, 2]) (gDSub hD [0, 1, 2] rfl) 0 11 rfl rfl rfl rfl rfl hl.1 rfl (lv_room (Nat.le_of_ble_eq_true rfl)) dX7_isScript_11 ⟨Nat.le_of_ble_eq_true rfl, Nat.le_of_ble_eq_true rfl⟩) hP hD hS hA [0, 1, 2] rfl (fun _ _ _ => rfl) rfl (fun r1 m_here_v1 m_commandMany_v1 m_commands_v1 H locs hw hP hD hS => ?_)
  have hP : va_P g.1 vwCl (List.flatten [kMo g a_mo a_ms a_mwas a_mtried a_msaved a_mpast a_mfar a_mdrift a_mline a_mtape a_mcommands m_changes m_thrown m_errorAt m_failedAt m_answer m_isSaved m_lined m_taped m_here_v1 m_commandMany_v1, kAr g a_mtape 60 m_tape, kAr g a_mcommands 155 m_commands_v1]) H := hP
  have hD : va_D A (List.flatten [kMo g a_mo a_ms a_mwas a_mtried a_msaved a_mpast a_mfar a_mdrift a_mline a_mtape a_mcommands m_changes m_thrown m_errorAt m_failedAt m_answer m_isSaved m_lined m_taped m_here_v1 m_commandMany_v1, kAr g a_mtape 60 m_tape, kAr g a_mcommands 155 m_commands_v1]) := hD
  refine lv_istore_n (lv' := [(1, .int r1), (0, .ref (a_mo 0))]) hx hb dX7_isScript_14 rfl hl (by decide) rfl (fun ls hl => ?_)
  obtain ⟨n, hw⟩ := hw
  exact L15 n r1 m_here_v1 m_commandMany_v1 m_commands_v1 _ _ _ hw hP hD hS (lv_sub hl [1, 0] rfl)
abbrev rmX7_runScript : Room := { frames := 10, cells := 0, slots := 0, locals := 302 }
set_option maxRecDepth 20000 in
theorem inX7_runScript_X7 : ∀ w ∈ wsX70, w ∈ wsX7_runScript := by decide +kernel
set_option maxHeartbeats 4000000 in
set_option maxRecDepth 100000 in
theorem ctX7_runScript (l : Launch) (g : GG) (t : GT) (a_mo : Nat → Nat) (a_ms : Nat → Nat) (a_mwas : Nat → Nat) (a_mtried : Nat → Nat) (a_msaved : Nat → Nat) (a_mpast : Nat → Nat) (a_mfar : Nat → Nat) (a_mdrift : Nat → Nat) (a_mline : Nat → Nat) (a_mtape : Nat → Nat) (a_mcommands : Nat → Nat) (sz : Nat) (m_changes : Int32) (m_thrown : Int32) (m_errorAt : Int32) (m_failedAt : Int32) (m_answer : Int32) (m_isSaved : Int32) (m_lined : Int32) (m_taped : Int32) (m_here : Int32) (m_commandMany : Int32) (m_s : Nat → Int32) (m_was : Nat → Int32) (m_past : Nat → Int32) (m_far : Nat → Int32) (m_drift : Nat → Int32) (m_tape : Nat → Int32) (m_commands : Nat → Int32) {post : Int32 → Int32 → Int32 → Int32 → Int32 → Int32 → Int32 → Int32 → Int32 → (Nat → Int32) → (Nat → Int32) → (Nat → Int32) → (Nat → Int32) → (Nat → Int32) → (Nat → Int32) → Prop} (hw : wpX7_runScript m_changes m_thrown m_errorAt m_failedAt m_answer m_taped m_here m_commandMany m_s m_was m_past m_far m_drift m_tape m_commands post) :
    Met l yX7_runScript wsX7_runScript rmX7_runScript (gPX g t sz (List.flatten [kMo g a_mo a_ms a_mwas a_mtried a_msaved a_mpast a_mfar a_mdrift a_mline a_mtape a_mcommands m_changes m_thrown m_errorAt m_failedAt m_answer m_isSaved m_lined m_taped m_here m_commandMany, kAr g a_ms 130 m_s, kAr g a_mwas 130 m_was, kAr g a_mpast 1040 m_past, kAr g a_mfar 8 m_far, kAr g a_mdrift 12 m_drift, kAr g a_mtape 60 m_tape, kAr g a_mcommands 155 m_commands]) [.ref (a_mo 0)]) (gQi14 post (fun u1 u2 u3 u4 u5 u6 u7 u8 u9 u10 u11 u12 u13 u14 => gB g (List.flatten [kMo g a_mo a_ms a_mwas a_mtried a_msaved a_mpast a_mfar a_mdrift a_mline a_mtape a_mcommands m_changes m_thrown m_errorAt m_failedAt m_answer m_isSaved m_lined m_taped m_here m_commandMany, kAr g a_ms 130 m_s, kAr g a_mwas 130 m_was, kAr g a_mpast 1040 m_past, kAr g a_mfar 8 m_far, kAr g a_mdrift 12 m_drift, kAr g a_mtape 60 m_tape, kAr g a_mcommands 155 m_commands]) sz (List.flatten [kMo g a_mo a_ms a_mwas a_mtried a_msaved a_mpast a_mfar a_mdrift a_mline a_mtape a_mcommands u1 u2 u3 u4 u5 m_isSaved m_lined u6 u7 u8, kAr g a_ms 130 u9, kAr g a_mwas 130 u10, kAr g a_mpast 1040 u11, kAr g a_mfar 8 u12, kAr g a_mdrift 12 u13, kAr g a_mtape 60 m_tape, kAr g a_mcommands 155 u14])) (va_A (List.flatten [kMo g a_mo a_ms a_mwas a_mtried a_msaved a_mpast a_mfar a_mdrift a_mline a_mtape a_mcommands m_changes m_thrown m_errorAt m_failedAt m_answer m_isSaved m_lined m_taped m_here m_commandMany, kAr g a_ms 130 m_s, kAr g a_mwas 130 m_was, kAr g a_mpast 1040 m_past, kAr g a_mfar 8 m_far, kAr g a_mdrift 12 m_drift, kAr g a_mtape 60 m_tape, kAr g a_mcommands 155 m_commands]) sz)) 0 0 (va_A (List.flatten [kMo g a_mo a_ms a_mwas a_mtried a_msaved a_mpast a_mfar a_mdrift a_mline a_mtape a_mcommands m_changes m_thrown m_errorAt m_failedAt m_answer m_isSaved m_lined m_taped m_here m_commandMany, kAr g a_ms 130 m_s, kAr g a_mwas 130 m_was, kAr g a_mpast 1040 m_past, kAr g a_mfar 8 m_far, kAr g a_mdrift 12 m_drift, kAr g a_mtape 60 m_tape, kAr g a_mcommands 155 m_commands]) sz) := by
  refine gOfX (cc := cX7_runScript) (maxL := 3) (ret := (some .int)) (by decide) rfl (Nat.le_of_ble_eq_true rfl) ?_
  intro p e s m below meth c ls Q A hQ hx hb hr hml hts hown hlocks hE hA0 hsz hP hD hA hS hl hX
  have hl : lv_has ls 3 [(0, .ref (a_mo 0))] := hl
  have L43 : ∀ (n : Nat) (m_changes_43 : Int32) (m_errorAt_43 : Int32) (m_failedAt_43 : Int32) (m_taped_43 : Int32) (m_here_43 : Int32) (m_commandMany_43 : Int32) (m_was_43 : Nat → Int32) (m_past_43 : Nat → Int32) (m_commands_43 : Nat → Int32) (x2_43 : Int32) (m_thrown_43 : Int32) (m_answer_43 : Int32) (m_s_43 : Nat → Int32) (m_far_43 : Nat → Int32) (m_drift_43 : Nat → Int32) (H : Heap) (locs : List Loc) (ls : Array Slot), wpX7_runScript_L43 m_tape m_changes_43 m_errorAt_43 m_failedAt_43 m_taped_43 m_here_43 m_commandMany_43 m_was_43 m_past_43 m_commands_43 post n x2_43 m_thrown_43 m_answer_43 m_s_43 m_far_43 m_drift_43 → va_P g.1 vwCl (List.flatten [kMo g a_mo a_ms a_mwas a_mtried a_msaved a_mpast a_mfar a_mdrift a_mline a_mtape a_mcommands m_changes_43 m_thrown_43 m_errorAt_43 m_failedAt_43 m_answer_43 m_isSaved m_lined m_taped_43 m_here_43 m_commandMany_43, kAr g a_ms 130 m_s_43, kAr g a_mwas 130 m_was_43, kAr g a_mpast 1040 m_past_43, kAr g a_mfar 8 m_far_43, kAr g a_mdrift 12 m_drift_43, kAr g a_mtape 60 m_tape, kAr g a_mcommands 155 m_commands_43]) H → va_D A (List.flatten [kMo g a_mo a_ms a_mwas a_mtried a_msaved a_mpast a_mfar a_mdrift a_mline a_mtape a_mcommands m_changes_43 m_thrown_43 m_errorAt_43 m_failedAt_43 m_answer_43 m_isSaved m_lined m_taped_43 m_here_43 m_commandMany_43, kAr g a_ms 130 m_s_43, kAr g a_mwas 130 m_was_43, kAr g a_mpast 1040 m_past_43, kAr g a_mfar 8 m_far_43, kAr g a_mdrift 12 m_drift_43, kAr g a_mtape 60 m_tape, kAr g a_mcommands 155 m_commands_43]) → va_S A s.heap H locs → lv_has ls 3 [(0, .ref (a_mo 0)), (2, .int x2_43)] → W p l e rmX7_runScript s m (([.ref (a_mo 0)] : List Value).toArray) below meth c H locs 0 0 Q (F0 m 43 ls []) := by
    intro n_43
    induction n_43 with
    | zero => intro m_changes_43 m_errorAt_43 m_failedAt_43 m_taped_43 m_here_43 m_commandMany_43 m_was_43 m_past_43 m_commands_43 x2_43 m_thrown_43 m_answer_43 m_s_43 m_far_43 m_drift_43 H locs ls hw; exact False.elim hw
    | succ n_43 ih_43 =>
      intro m_changes_43 m_errorAt_43 m_failedAt_43 m_taped_43 m_here_43 m_commandMany_43 m_was_43 m_past_43 m_commands_43 x2_43 m_thrown_43 m_answer_43 m_s_43 m_far_43 m_drift_43 H locs ls hw hP hD hS hl
      refine lv_iload_n hx hb dX7_runScript_43 rfl (lv_at hl 1 rfl) ?_
      refine lv_aload_n hx hb dX7_runScript_44 rfl (lv_at hl 0 rfl) ?_
      refine va_get (D := g.1) (ci := 11) (v := .int m_commandMany_43) (C := RX7) (T := TX7) (N := 20) hx hb hts inX7_runScript_X7 hown hE.1 hP 0 rfl rfl 19 (by decide) (gW hts 4 (.fieldLink RX7 245 "SnowDispatcherModel" "commandMany" "I") rfl) (fun _ h9 => h9) rfl dX7_runScript_45 ?_
      refine lv_icmp_ge (tgt := 105) hx hb dX7_runScript_48 (by decide) (fun c_48 => ?_) (fun c_48 => ?_)
      · have hw := hw.1 c_48
        refine lv_aload_n hx hb dX7_runScript_105 rfl (lv_at hl 0 rfl) ?_
        refine lv_aload_n hx hb dX7_runScript_106 rfl (lv_at hl 0 rfl) ?_
        refine va_get (D := g.1) (ci := 11) (v := .int m_commandMany_43) (C := RX7) (T := TX7) (N := 20) hx hb hts inX7_runScript_X7 hown hE.1 hP 0 rfl rfl 19 (by decide) (gW hts 4 (.fieldLink RX7 245 "SnowDispatcherModel" "commandMany" "I") rfl) (fun _ h9 => h9) rfl dX7_runScript_107 ?_
        refine gCi2 (gRunV (As := [.int m_commandMany_43]) (rest := []) ⟨hx, hb, hml, hown, hts⟩ (ctX7_ends l g a_mo a_ms a_mwas a_mtried a_msaved a_mpast a_mfar a_mdrift a_mline a_mtape a_mcommands _ m_changes_43 m_thrown_43 m_errorAt_43 m_failedAt_43 m_answer_43 m_isSaved m_lined m_taped_43 m_here_43 m_commandMany_43 m_was_43 m_past_43 m_commandMany_43 hw) (cwV 1 hts gX7_runScript_X7_ends rfl rfl rfl (by decide +kernel) ⟨Nat.le_of_ble_eq_true rfl, Nat.le_of_ble_eq_true rfl⟩) hE (gSub hP [0, 2, 3]) (gDSub hD [0, 2, 3] rfl) 0 11 rfl rfl rfl rfl rfl hl.1 rfl (lv_room (Nat.le_of_ble_eq_true rfl)) dX7_runScript_110 ⟨Nat.le_of_ble_eq_true rfl, Nat.le_of_ble_eq_true rfl⟩) hP hD hS hA [0, 2, 3] rfl (fun _ _ => rfl) rfl (fun r4 m_changes_v4 m_past_v4 H locs hw hP hD hS => ?_)
        have hP : va_P g.1 vwCl (List.flatten [kMo g a_mo a_ms a_mwas a_mtried a_msaved a_mpast a_mfar a_mdrift a_mline a_mtape a_mcommands m_changes_v4 m_thrown_43 m_errorAt_43 m_failedAt_43 m_answer_43 m_isSaved m_lined m_taped_43 m_here_43 m_commandMany_43, kAr g a_ms 130 m_s_43, kAr g a_mwas 130 m_was_43, kAr g a_mpast 1040 m_past_v4, kAr g a_mfar 8 m_far_43, kAr g a_mdrift 12 m_drift_43, kAr g a_mtape 60 m_tape, kAr g a_mcommands 155 m_commands_43]) H := hP
        have hD : va_D A (List.flatten [kMo g a_mo a_ms a_mwas a_mtried a_msaved a_mpast a_mfar a_mdrift a_mline a_mtape a_mcommands m_changes_v4 m_thrown_43 m_errorAt_43 m_failedAt_43 m_answer_43 m_isSaved m_lined m_taped_43 m_here_43 m_commandMany_43, kAr g a_ms 130 m_s_43, kAr g a_mwas 130 m_was_43, kAr g a_mpast 1040 m_past_v4, kAr g a_mfar 8 m_far_43, kAr g a_mdrift 12 m_drift_43, kAr g a_mtape 60 m_tape, kAr g a_mcommands 155 m_commands_43]) := hD
        subst hQ
        exact W.iret hx hb hr (gRi14 (c1 := m_changes_v4) (c2 := m_thrown_43) (c3 := m_errorAt_43) (c4 := m_failedAt_43) (c5 := m_answer_43) (c6 := m_taped_43) (c7 := m_here_43) (c8 := m_commandMany_43) (c9 := m_s_43) (c10 := m_was_43) (c11 := m_past_v4) (c12 := m_far_43) (c13 := m_drift_43) (c14 := m_commands_43) (wf := _) hA0 hsz hw hP hD hS) hS.2.2 dX7_runScript_113
      · have hw := hw.2 c_48
        refine lv_aload_n hx hb dX7_runScript_51 rfl (lv_at hl 0 rfl) ?_
        refine lv_iconst (v := 0) hx hb dX7_runScript_52 (by decide) ?_
        refine va_put (D := g.1) (ci := 11) (v := .int 0) (ty := .int) (C := RX7) (T := TX7) (N := 20) hx hb hts inX7_runScript_X7 tyX7 tyX7_ok nmX7 hown hE.1 hP hD hS 0 rfl rfl 8 (by decide) (gW hts 5 (.fieldLink RX7 47 "SnowDispatcherModel" "thrown" "I") rfl) (fun _ h9 => h9) rfl (by decide +kernel) rfl rfl (Nat.le_of_ble_eq_true rfl) dX7_runScript_53 (fun H locs hP hD hS => ?_)
        have hP : va_P g.1 vwCl (List.flatten [kMo g a_mo a_ms a_mwas a_mtried a_msaved a_mpast a_mfar a_mdrift a_mline a_mtape a_mcommands m_changes_43 0 m_errorAt_43 m_failedAt_43 m_answer_43 m_isSaved m_lined m_taped_43 m_here_43 m_commandMany_43, kAr g a_ms 130 m_s_43, kAr g a_mwas 130 m_was_43, kAr g a_mpast 1040 m_past_43, kAr g a_mfar 8 m_far_43, kAr g a_mdrift 12 m_drift_43, kAr g a_mtape 60 m_tape, kAr g a_mcommands 155 m_commands_43]) H := hP
        have hD : va_D A (List.flatten [kMo g a_mo a_ms a_mwas a_mtried a_msaved a_mpast a_mfar a_mdrift a_mline a_mtape a_mcommands m_changes_43 0 m_errorAt_43 m_failedAt_43 m_answer_43 m_isSaved m_lined m_taped_43 m_here_43 m_commandMany_43, kAr g a_ms 130 m_s_43, kAr g a_mwas 130 m_was_43, kAr g a_mpast 1040 m_past_43, kAr g a_mfar 8 m_far_43, kAr g a_mdrift 12 m_drift_43, kAr g a_mtape 60 m_tape, kAr g a_mcommands 155 m_commands_43]) := hD
        refine lv_aload_n hx hb dX7_runScript_56 rfl (lv_at hl 0 rfl) ?_
        refine lv_aload_n hx hb dX7_runScript_57 rfl (lv_at hl 0 rfl) ?_
        refine lv_iconst (v := 5) hx hb dX7_runScript_58 (by decide) ?_
        refine lv_iload_n hx hb dX7_runScript_59 rfl (lv_at hl 1 rfl) ?_
        refine lv_imul hx hb dX7_runScript_60 ?_
        refine gCi5 (gRunV (As := [.int (5 * x2_43)]) (rest := [.ref (a_mo 0)]) ⟨hx, hb, hml, hown, hts⟩ (ctX7_does l g a_mo a_ms a_mwas a_mtried a_msaved a_mpast a_mfar a_mdrift a_mline a_mtape a_mcommands _ m_changes_43 0 m_errorAt_43 m_failedAt_43 m_answer_43 m_isSaved m_lined m_taped_43 m_here_43 m_commandMany_43 m_s_43 m_far_43 m_drift_43 m_commands_43 (5 * x2_43) hw) (cwV 1 hts gX7_runScript_X7_does rfl rfl rfl (by decide +kernel) ⟨Nat.le_of_ble_eq_true rfl, Nat.le_of_ble_eq_true rfl⟩) hE (gSub hP [0, 1, 4, 5, 7]) (gDSub hD [0, 1, 4, 5, 7] rfl) 0 11 rfl rfl rfl rfl rfl hl.1 rfl (lv_room (Nat.le_of_ble_eq_true rfl)) dX7_runScript_61 ⟨Nat.le_of_ble_eq_true rfl, Nat.le_of_ble_eq_true rfl⟩) hP hD hS hA [0, 1, 4, 5, 7] rfl (fun _ _ _ _ _ => rfl) rfl (fun r5 m_thrown_v5 m_answer_v5 m_s_v5 m_far_v5 m_drift_v5 H locs hw hP hD hS => ?_)
        have hP : va_P g.1 vwCl (List.flatten [kMo g a_mo a_ms a_mwas a_mtried a_msaved a_mpast a_mfar a_mdrift a_mline a_mtape a_mcommands m_changes_43 m_thrown_v5 m_errorAt_43 m_failedAt_43 m_answer_v5 m_isSaved m_lined m_taped_43 m_here_43 m_commandMany_43, kAr g a_ms 130 m_s_v5, kAr g a_mwas 130 m_was_43, kAr g a_mpast 1040 m_past_43, kAr g a_mfar 8 m_far_v5, kAr g a_mdrift 12 m_drift_v5, kAr g a_mtape 60 m_tape, kAr g a_mcommands 155 m_commands_43]) H := hP
        have hD : va_D A (List.flatten [kMo g a_mo a_ms a_mwas a_mtried a_msaved a_mpast a_mfar a_mdrift a_mline a_mtape a_mcommands m_changes_43 m_thrown_v5 m_errorAt_43 m_failedAt_43 m_answer_v5 m_isSaved m_lined m_taped_43 m_here_43 m_commandMany_43, kAr g a_ms 130 m_s_v5, kAr g a_mwas 130 m_was_43, kAr g a_mpast 1040 m_past_43, kAr g a_mfar 8 m_far_v5, kAr g a_mdrift 12 m_drift_v5, kAr g a_mtape 60 m_tape, kAr g a_mcommands 155 m_commands_43]) := hD
        refine va_put (D := g.1) (ci := 11) (v := .int r5) (ty := .int) (C := RX7) (T := TX7) (N := 20) hx hb hts inX7_runScript_X7 tyX7 tyX7_ok nmX7 hown hE.1 hP hD hS 0 rfl rfl 11 (by decide) (gW hts 6 (.fieldLink RX7 162 "SnowDispatcherModel" "answer" "I") rfl) (fun _ h9 => h9) rfl (by decide +kernel) rfl rfl (Nat.le_of_ble_eq_true rfl) dX7_runScript_64 (fun H locs hP hD hS => ?_)
        have hP : va_P g.1 vwCl (List.flatten [kMo g a_mo a_ms a_mwas a_mtried a_msaved a_mpast a_mfar a_mdrift a_mline a_mtape a_mcommands m_changes_43 m_thrown_v5 m_errorAt_43 m_failedAt_43 r5 m_isSaved m_lined m_taped_43 m_here_43 m_commandMany_43, kAr g a_ms 130 m_s_v5, kAr g a_mwas 130 m_was_43, kAr g a_mpast 1040 m_past_43, kAr g a_mfar 8 m_far_v5, kAr g a_mdrift 12 m_drift_v5, kAr g a_mtape 60 m_tape, kAr g a_mcommands 155 m_commands_43]) H := hP
        have hD : va_D A (List.flatten [kMo g a_mo a_ms a_mwas a_mtried a_msaved a_mpast a_mfar a_mdrift a_mline a_mtape a_mcommands m_changes_43 m_thrown_v5 m_errorAt_43 m_failedAt_43 r5 m_isSaved m_lined m_taped_43 m_here_43 m_commandMany_43, kAr g a_ms 130 m_s_v5, kAr g a_mwas 130 m_was_43, kAr g a_mpast 1040 m_past_43, kAr g a_mfar 8 m_far_v5, kAr g a_mdrift 12 m_drift_v5, kAr g a_mtape 60 m_tape, kAr g a_mcommands 155 m_commands_43]) := hD
        refine lv_aload_n hx hb dX7_runScript_67 rfl (lv_at hl 0 rfl) ?_
        refine va_get (D := g.1) (ci := 11) (v := .int m_thrown_v5) (C := RX7) (T := TX7) (N := 20) hx hb hts inX7_runScript_X7 hown hE.1 hP 0 rfl rfl 8 (by decide) (gW hts 5 (.fieldLink RX7 47 "SnowDispatcherModel" "thrown" "I") rfl) (fun _ h9 => h9) rfl dX7_runScript_68 ?_
        refine lv_if_eq (tgt := 99) hx hb dX7_runScript_71 (by decide) (fun c_71 => ?_) (fun c_71 => ?_)
        · have hw := hw.1 c_71
          refine lv_iinc (v := (x2_43 + 1)) (lv' := [(2, .int (x2_43 + 1)), (0, .ref (a_mo 0))]) hx hb dX7_runScript_99 hl (k := 1) rfl rfl (by decide) rfl (fun ls hl => ?_)
          refine lv_goto (tgt := 43) hx hb dX7_runScript_102 (by decide) ?_
          exact ih_43 m_changes_43 m_errorAt_43 m_failedAt_43 m_taped_43 m_here_43 m_commandMany_43 m_was_43 m_past_43 m_commands_43 (x2_43 + 1) m_thrown_v5 r5 m_s_v5 m_far_v5 m_drift_v5 _ _ _ hw hP hD hS (lv_sub hl [1, 0] rfl)
        · have hw := hw.2 c_71
          refine lv_aload_n hx hb dX7_runScript_74 rfl (lv_at hl 0 rfl) ?_
          refine va_get (D := g.1) (ci := 11) (v := .ref (a_mwas 0)) (C := RX7) (T := TX7) (N := 20) hx hb hts inX7_runScript_X7 hown hE.1 hP 0 rfl rfl 1 (by decide) (gW hts 7 (.fieldLink RX7 13 "SnowDispatcherModel" "was" "[I") rfl) (fun _ h9 => h9) rfl dX7_runScript_75 ?_
          refine lv_iconst (v := 0) hx hb dX7_runScript_78 (by decide) ?_
          refine lv_aload_n hx hb dX7_runScript_79 rfl (lv_at hl 0 rfl) ?_
          refine va_get (D := g.1) (ci := 11) (v := .ref (a_ms 0)) (C := RX7) (T := TX7) (N := 20) hx hb hts inX7_runScript_X7 hown hE.1 hP 0 rfl rfl 0 (by decide) (gW hts 8 (.fieldLink RX7 9 "SnowDispatcherModel" "s" "[I") rfl) (fun _ h9 => h9) rfl dX7_runScript_80 ?_
          refine lv_iconst (v := 0) hx hb dX7_runScript_83 (by decide) ?_
          refine gCv1 (gRunS (As := [.ref (a_mwas 0), .int 0, .ref (a_ms 0), .int 0]) (rest := []) ⟨hx, hb, hml, hown, hts⟩ (ctX7_copies l g a_mwas a_ms _ 130 m_was_43 130 m_s_v5 0 0 hw) (va_cwS 4 hts gX7_runScript_X7_copies rfl rfl rfl (by decide +kernel) ⟨Nat.le_of_ble_eq_true rfl, Nat.le_of_ble_eq_true rfl⟩) hE (gSub hP [2, 1]) (gDSub hD [2, 1] rfl) rfl rfl hl.1 rfl (lv_room (Nat.le_of_ble_eq_true rfl)) dX7_runScript_84 ⟨Nat.le_of_ble_eq_true rfl, Nat.le_of_ble_eq_true rfl⟩) hP hD hS hA [2, 1] rfl (fun _ => rfl) rfl (fun m_s_v6 H locs hw hP hD hS => ?_)
          have hP : va_P g.1 vwCl (List.flatten [kMo g a_mo a_ms a_mwas a_mtried a_msaved a_mpast a_mfar a_mdrift a_mline a_mtape a_mcommands m_changes_43 m_thrown_v5 m_errorAt_43 m_failedAt_43 r5 m_isSaved m_lined m_taped_43 m_here_43 m_commandMany_43, kAr g a_ms 130 m_s_v6, kAr g a_mwas 130 m_was_43, kAr g a_mpast 1040 m_past_43, kAr g a_mfar 8 m_far_v5, kAr g a_mdrift 12 m_drift_v5, kAr g a_mtape 60 m_tape, kAr g a_mcommands 155 m_commands_43]) H := hP
          have hD : va_D A (List.flatten [kMo g a_mo a_ms a_mwas a_mtried a_msaved a_mpast a_mfar a_mdrift a_mline a_mtape a_mcommands m_changes_43 m_thrown_v5 m_errorAt_43 m_failedAt_43 r5 m_isSaved m_lined m_taped_43 m_here_43 m_commandMany_43, kAr g a_ms 130 m_s_v6, kAr g a_mwas 130 m_was_43, kAr g a_mpast 1040 m_past_43, kAr g a_mfar 8 m_far_v5, kAr g a_mdrift 12 m_drift_v5, kAr g a_mtape 60 m_tape, kAr g a_mcommands 155 m_commands_43]) := hD
          refine lv_aload_n hx hb dX7_runScript_87 rfl (lv_at hl 0 rfl) ?_
          refine lv_iload_n hx hb dX7_runScript_88 rfl (lv_at hl 1 rfl) ?_
          refine va_put (D := g.1) (ci := 11) (v := .int x2_43) (ty := .int) (C := RX7) (T := TX7) (N := 20) hx hb hts inX7_runScript_X7 tyX7 tyX7_ok nmX7 hown hE.1 hP hD hS 0 rfl rfl 10 (by decide) (gW hts 9 (.fieldLink RX7 35 "SnowDispatcherModel" "failedAt" "I") rfl) (fun _ h9 => h9) rfl (by decide +kernel) rfl rfl (Nat.le_of_ble_eq_true rfl) dX7_runScript_89 (fun H locs hP hD hS => ?_)
          have hP : va_P g.1 vwCl (List.flatten [kMo g a_mo a_ms a_mwas a_mtried a_msaved a_mpast a_mfar a_mdrift a_mline a_mtape a_mcommands m_changes_43 m_thrown_v5 m_errorAt_43 x2_43 r5 m_isSaved m_lined m_taped_43 m_here_43 m_commandMany_43, kAr g a_ms 130 m_s_v6, kAr g a_mwas 130 m_was_43, kAr g a_mpast 1040 m_past_43, kAr g a_mfar 8 m_far_v5, kAr g a_mdrift 12 m_drift_v5, kAr g a_mtape 60 m_tape, kAr g a_mcommands 155 m_commands_43]) H := hP
          have hD : va_D A (List.flatten [kMo g a_mo a_ms a_mwas a_mtried a_msaved a_mpast a_mfar a_mdrift a_mline a_mtape a_mcommands m_changes_43 m_thrown_v5 m_errorAt_43 x2_43 r5 m_isSaved m_lined m_taped_43 m_here_43 m_commandMany_43, kAr g a_ms 130 m_s_v6, kAr g a_mwas 130 m_was_43, kAr g a_mpast 1040 m_past_43, kAr g a_mfar 8 m_far_v5, kAr g a_mdrift 12 m_drift_v5, kAr g a_mtape 60 m_tape, kAr g a_mcommands 155 m_commands_43]) := hD
          refine lv_aload_n hx hb dX7_runScript_92 rfl (lv_at hl 0 rfl) ?_
          refine lv_iconst (v := 2) hx hb dX7_runScript_93 (by decide) ?_
          refine va_put (D := g.1) (ci := 11) (v := .int 2) (ty := .int) (C := RX7) (T := TX7) (N := 20) hx hb hts inX7_runScript_X7 tyX7 tyX7_ok nmX7 hown hE.1 hP hD hS 0 rfl rfl 8 (by decide) (gW hts 5 (.fieldLink RX7 47 "SnowDispatcherModel" "thrown" "I") rfl) (fun _ h9 => h9) rfl (by decide +kernel) rfl rfl (Nat.le_of_ble_eq_true rfl) dX7_runScript_94 (fun H locs hP hD hS => ?_)
          have hP : va_P g.1 vwCl (List.flatten [kMo g a_mo a_ms a_mwas a_mtried a_msaved a_mpast a_mfar a_mdrift a_mline a_mtape a_mcommands m_changes_43 2 m_errorAt_43 x2_43 r5 m_isSaved m_lined m_taped_43 m_here_43 m_commandMany_43, kAr g a_ms 130 m_s_v6, kAr g a_mwas 130 m_was_43, kAr g a_mpast 1040 m_past_43, kAr g a_mfar 8 m_far_v5, kAr g a_mdrift 12 m_drift_v5, kAr g a_mtape 60 m_tape, kAr g a_mcommands 155 m_commands_43]) H := hP
          have hD : va_D A (List.flatten [kMo g a_mo a_ms a_mwas a_mtried a_msaved a_mpast a_mfar a_mdrift a_mline a_mtape a_mcommands m_changes_43 2 m_errorAt_43 x2_43 r5 m_isSaved m_lined m_taped_43 m_here_43 m_commandMany_43, kAr g a_ms 130 m_s_v6, kAr g a_mwas 130 m_was_43, kAr g a_mpast 1040 m_past_43, kAr g a_mfar 8 m_far_v5, kAr g a_mdrift 12 m_drift_v5, kAr g a_mtape 60 m_tape, kAr g a_mcommands 155 m_commands_43]) := hD
          refine lv_iconst (v := 0) hx hb dX7_runScript_97 (by decide) ?_
          subst hQ
          exact W.iret hx hb hr (gRi14 (c1 := m_changes_43) (c2 := 2) (c3 := m_errorAt_43) (c4 := x2_43) (c5 := r5) (c6 := m_taped_43) (c7 := m_here_43) (c8 := m_commandMany_43) (c9 := m_s_v6) (c10 := m_was_43) (c11 := m_past_43) (c12 := m_far_v5) (c13 := m_drift_v5) (c14 := m_commands_43) (wf := _) hA0 hsz hw hP hD hS) hS.2.2 dX7_runScript_98
  have J20 : ∀ (z1_20 : Int32) (m_changes_20 : Int32) (m_thrown_20 : Int32) (m_errorAt_20 : Int32) (m_failedAt_20 : Int32) (m_answer_20 : Int32) (m_taped_20 : Int32) (m_here_20 : Int32) (m_commandMany_20 : Int32) (m_s_20 : Nat → Int32) (m_was_20 : Nat → Int32) (m_past_20 : Nat → Int32) (m_far_20 : Nat → Int32) (m_drift_20 : Nat → Int32) (m_commands_20 : Nat → Int32) (H : Heap) (locs : List Loc) (ls : Array Slot), wpX7_runScript_L20 m_tape post z1_20 m_changes_20 m_thrown_20 m_errorAt_20 m_failedAt_20 m_answer_20 m_taped_20 m_here_20 m_commandMany_20 m_s_20 m_was_20 m_past_20 m_far_20 m_drift_20 m_commands_20 → va_P g.1 vwCl (List.flatten [kMo g a_mo a_ms a_mwas a_mtried a_msaved a_mpast a_mfar a_mdrift a_mline a_mtape a_mcommands m_changes_20 m_thrown_20 m_errorAt_20 m_failedAt_20 m_answer_20 m_isSaved m_lined m_taped_20 m_here_20 m_commandMany_20, kAr g a_ms 130 m_s_20, kAr g a_mwas 130 m_was_20, kAr g a_mpast 1040 m_past_20, kAr g a_mfar 8 m_far_20, kAr g a_mdrift 12 m_drift_20, kAr g a_mtape 60 m_tape, kAr g a_mcommands 155 m_commands_20]) H → va_D A (List.flatten [kMo g a_mo a_ms a_mwas a_mtried a_msaved a_mpast a_mfar a_mdrift a_mline a_mtape a_mcommands m_changes_20 m_thrown_20 m_errorAt_20 m_failedAt_20 m_answer_20 m_isSaved m_lined m_taped_20 m_here_20 m_commandMany_20, kAr g a_ms 130 m_s_20, kAr g a_mwas 130 m_was_20, kAr g a_mpast 1040 m_past_20, kAr g a_mfar 8 m_far_20, kAr g a_mdrift 12 m_drift_20, kAr g a_mtape 60 m_tape, kAr g a_mcommands 155 m_commands_20]) → va_S A s.heap H locs → lv_has ls 3 [(0, .ref (a_mo 0))] → W p l e rmX7_runScript s m (([.ref (a_mo 0)] : List Value).toArray) below meth c H locs 0 0 Q (F0 m 20 ls [.int z1_20, .ref (a_mo 0)]) := by
    intro z1_20 m_changes_20 m_thrown_20 m_errorAt_20 m_failedAt_20 m_answer_20 m_taped_20 m_here_20 m_commandMany_20 m_s_20 m_was_20 m_past_20 m_far_20 m_drift_20 m_commands_20 H locs ls hw hP hD hS hl
    refine lv_iconst (v := 1) hx hb dX7_runScript_20 (by decide) ?_
    refine gCi1 (gRunV (As := [.int z1_20, .int 1]) (rest := []) ⟨hx, hb, hml, hown, hts⟩ (ctX7_isThrown l g a_mo a_ms a_mwas a_mtried a_msaved a_mpast a_mfar a_mdrift a_mline a_mtape a_mcommands _ m_changes_20 m_thrown_20 m_errorAt_20 m_failedAt_20 m_answer_20 m_isSaved m_lined m_taped_20 m_here_20 m_commandMany_20 z1_20 1 hw) (cwV 2 hts gX7_runScript_X7_isThrown rfl rfl rfl (by decide +kernel) ⟨Nat.le_of_ble_eq_true rfl, Nat.le_of_ble_eq_true rfl⟩) hE (gSub hP [0]) (gDSub hD [0] rfl) 0 11 rfl rfl rfl rfl rfl hl.1 rfl (lv_room (Nat.le_of_ble_eq_true rfl)) dX7_runScript_21 ⟨Nat.le_of_ble_eq_true rfl, Nat.le_of_ble_eq_true rfl⟩) hP hD hS hA [0] rfl (fun _ => rfl) rfl (fun r2 m_thrown_v2 H locs hw hP hD hS => ?_)
    have hP : va_P g.1 vwCl (List.flatten [kMo g a_mo a_ms a_mwas a_mtried a_msaved a_mpast a_mfar a_mdrift a_mline a_mtape a_mcommands m_changes_20 m_thrown_v2 m_errorAt_20 m_failedAt_20 m_answer_20 m_isSaved m_lined m_taped_20 m_here_20 m_commandMany_20, kAr g a_ms 130 m_s_20, kAr g a_mwas 130 m_was_20, kAr g a_mpast 1040 m_past_20, kAr g a_mfar 8 m_far_20, kAr g a_mdrift 12 m_drift_20, kAr g a_mtape 60 m_tape, kAr g a_mcommands 155 m_commands_20]) H := hP
    have hD : va_D A (List.flatten [kMo g a_mo a_ms a_mwas a_mtried a_msaved a_mpast a_mfar a_mdrift a_mline a_mtape a_mcommands m_changes_20 m_thrown_v2 m_errorAt_20 m_failedAt_20 m_answer_20 m_isSaved m_lined m_taped_20 m_here_20 m_commandMany_20, kAr g a_ms 130 m_s_20, kAr g a_mwas 130 m_was_20, kAr g a_mpast 1040 m_past_20, kAr g a_mfar 8 m_far_20, kAr g a_mdrift 12 m_drift_20, kAr g a_mtape 60 m_tape, kAr g a_mcommands 155 m_commands_20]) := hD
    refine lv_if_eq (tgt := 37) hx hb dX7_runScript_24 (by decide) (fun c_24 => ?_) (fun c_24 => ?_)
    · have hw := hw.1 c_24
      refine lv_aload_n hx hb dX7_runScript_37 rfl (lv_at hl 0 rfl) ?_
      refine gCv2 (gRunV (As := []) (rest := []) ⟨hx, hb, hml, hown, hts⟩ (ctX7_keeps l g a_mo a_ms a_mwas a_mtried a_msaved a_mpast a_mfar a_mdrift a_mline a_mtape a_mcommands _ m_changes_20 m_thrown_v2 m_errorAt_20 m_failedAt_20 m_answer_20 m_isSaved m_lined m_taped_20 m_here_20 m_commandMany_20 m_s_20 m_was_20 hw) (cwV 0 hts gX7_runScript_X7_keeps rfl rfl rfl (by decide +kernel) ⟨Nat.le_of_ble_eq_true rfl, Nat.le_of_ble_eq_true rfl⟩) hE (gSub hP [0, 1, 2]) (gDSub hD [0, 1, 2] rfl) 0 11 rfl rfl rfl rfl rfl hl.1 rfl (lv_room (Nat.le_of_ble_eq_true rfl)) dX7_runScript_38 ⟨Nat.le_of_ble_eq_true rfl, Nat.le_of_ble_eq_true rfl⟩) hP hD hS hA [0, 1, 2] rfl (fun _ _ => rfl) rfl (fun m_thrown_v3 m_was_v3 H locs hw hP hD hS => ?_)
      have hP : va_P g.1 vwCl (List.flatten [kMo g a_mo a_ms a_mwas a_mtried a_msaved a_mpast a_mfar a_mdrift a_mline a_mtape a_mcommands m_changes_20 m_thrown_v3 m_errorAt_20 m_failedAt_20 m_answer_20 m_isSaved m_lined m_taped_20 m_here_20 m_commandMany_20, kAr g a_ms 130 m_s_20, kAr g a_mwas 130 m_was_v3, kAr g a_mpast 1040 m_past_20, kAr g a_mfar 8 m_far_20, kAr g a_mdrift 12 m_drift_20, kAr g a_mtape 60 m_tape, kAr g a_mcommands 155 m_commands_20]) H := hP
      have hD : va_D A (List.flatten [kMo g a_mo a_ms a_mwas a_mtried a_msaved a_mpast a_mfar a_mdrift a_mline a_mtape a_mcommands m_changes_20 m_thrown_v3 m_errorAt_20 m_failedAt_20 m_answer_20 m_isSaved m_lined m_taped_20 m_here_20 m_commandMany_20, kAr g a_ms 130 m_s_20, kAr g a_mwas 130 m_was_v3, kAr g a_mpast 1040 m_past_20, kAr g a_mfar 8 m_far_20, kAr g a_mdrift 12 m_drift_20, kAr g a_mtape 60 m_tape, kAr g a_mcommands 155 m_commands_20]) := hD
      refine lv_iconst (v := 0) hx hb dX7_runScript_41 (by decide) ?_
      refine lv_istore_n (lv' := [(2, .int 0), (0, .ref (a_mo 0))]) hx hb dX7_runScript_42 rfl hl (by decide) rfl (fun ls hl => ?_)
      obtain ⟨n, hw⟩ := hw
      exact L43 n m_changes_20 m_errorAt_20 m_failedAt_20 m_taped_20 m_here_20 m_commandMany_20 m_was_v3 m_past_20 m_commands_20 0 m_thrown_v3 m_answer_20 m_s_20 m_far_20 m_drift_20 _ _ _ hw hP hD hS (lv_sub hl [1, 0] rfl)
    · have hw := hw.2 c_24
      refine lv_aload_n hx hb dX7_runScript_27 rfl (lv_at hl 0 rfl) ?_
      refine lv_aload_n hx hb dX7_runScript_28 rfl (lv_at hl 0 rfl) ?_
      refine va_get (D := g.1) (ci := 11) (v := .int m_here_20) (C := RX7) (T := TX7) (N := 20) hx hb hts inX7_runScript_X7 hown hE.1 hP 0 rfl rfl 18 (by decide) (gW hts 2 (.fieldLink RX7 192 "SnowDispatcherModel" "here" "I") rfl) (fun _ h9 => h9) rfl dX7_runScript_29 ?_
      refine va_put (D := g.1) (ci := 11) (v := .int m_here_20) (ty := .int) (C := RX7) (T := TX7) (N := 20) hx hb hts inX7_runScript_X7 tyX7 tyX7_ok nmX7 hown hE.1 hP hD hS 0 rfl rfl 9 (by decide) (gW hts 3 (.fieldLink RX7 31 "SnowDispatcherModel" "errorAt" "I") rfl) (fun _ h9 => h9) rfl (by decide +kernel) rfl rfl (Nat.le_of_ble_eq_true rfl) dX7_runScript_32 (fun H locs hP hD hS => ?_)
      have hP : va_P g.1 vwCl (List.flatten [kMo g a_mo a_ms a_mwas a_mtried a_msaved a_mpast a_mfar a_mdrift a_mline a_mtape a_mcommands m_changes_20 m_thrown_v2 m_here_20 m_failedAt_20 m_answer_20 m_isSaved m_lined m_taped_20 m_here_20 m_commandMany_20, kAr g a_ms 130 m_s_20, kAr g a_mwas 130 m_was_20, kAr g a_mpast 1040 m_past_20, kAr g a_mfar 8 m_far_20, kAr g a_mdrift 12 m_drift_20, kAr g a_mtape 60 m_tape, kAr g a_mcommands 155 m_commands_20]) H := hP
      have hD : va_D A (List.flatten [kMo g a_mo a_ms a_mwas a_mtried a_msaved a_mpast a_mfar a_mdrift a_mline a_mtape a_mcommands m_changes_20 m_thrown_v2 m_here_20 m_failedAt_20 m_answer_20 m_isSaved m_lined m_taped_20 m_here_20 m_commandMany_20, kAr g a_ms 130 m_s_20, kAr g a_mwas 130 m_was_20, kAr g a_mpast 1040 m_past_20, kAr g a_mfar 8 m_far_20, kAr g a_mdrift 12 m_drift_20, kAr g a_mtape 60 m_tape, kAr g a_mcommands 155 m_commands_20]) := hD
      refine lv_iconst (v := 0) hx hb dX7_runScript_35 (by decide) ?_
      subst hQ
      exact W.iret hx hb hr (gRi14 (c1 := m_changes_20) (c2 := m_thrown_v2) (c3 := m_here_20) (c4 := m_failedAt_20) (c5 := m_answer_20) (c6 := m_taped_20) (c7 := m_here_20) (c8 := m_commandMany_20) (c9 := m_s_20) (c10 := m_was_20) (c11 := m_past_20) (c12 := m_far_20) (c13 := m_drift_20) (c14 := m_commands_20) (wf := _) hA0 hsz hw hP hD hS) hS.2.2 dX7_runScript_36
  refine lv_aload_n hx hb dX7_runScript_0 rfl (lv_at hl 0 rfl) ?_
  refine gCi3 (gRunVX (As := []) (rest := []) ⟨hx, hb, hml, hown, hts⟩ (ctX7_isScript l g t a_mo a_ms a_mwas a_mtried a_msaved a_mpast a_mfar a_mdrift a_mline a_mtape a_mcommands _ m_changes m_thrown m_errorAt m_failedAt m_answer m_isSaved m_lined m_taped m_here m_commandMany m_tape m_commands hw) (cwV 0 hts gX7_runScript_X7_isScript rfl rfl rfl (by decide +kernel) ⟨Nat.le_of_ble_eq_true rfl, Nat.le_of_ble_eq_true rfl⟩) hE hX hS (gFree hD hS hA [0, 6, 7]) (gSub hP [0, 6, 7]) (gDSub hD [0, 6, 7] rfl) 0 11 rfl rfl rfl rfl rfl hl.1 rfl (lv_room (Nat.le_of_ble_eq_true rfl)) dX7_runScript_1 ⟨Nat.le_of_ble_eq_true rfl, Nat.le_of_ble_eq_true rfl⟩) hP hD hS hA [0, 6, 7] rfl (fun _ _ _ => rfl) rfl (fun r1 m_here_v1 m_commandMany_v1 m_commands_v1 H locs hw hP hD hS => ?_)
  have hP : va_P g.1 vwCl (List.flatten [kMo g a_mo a_ms a_mwas a_mtried a_msaved a_mpast a_mfar a_mdrift a_mline a_mtape a_mcommands m_changes m_thrown m_errorAt m_failedAt m_answer m_isSaved m_lined m_taped m_here_v1 m_commandMany_v1, kAr g a_ms 130 m_s, kAr g a_mwas 130 m_was, kAr g a_mpast 1040 m_past, kAr g a_mfar 8 m_far, kAr g a_mdrift 12 m_drift, kAr g a_mtape 60 m_tape, kAr g a_mcommands 155 m_commands_v1]) H := hP
  have hD : va_D A (List.flatten [kMo g a_mo a_ms a_mwas a_mtried a_msaved a_mpast a_mfar a_mdrift a_mline a_mtape a_mcommands m_changes m_thrown m_errorAt m_failedAt m_answer m_isSaved m_lined m_taped m_here_v1 m_commandMany_v1, kAr g a_ms 130 m_s, kAr g a_mwas 130 m_was, kAr g a_mpast 1040 m_past, kAr g a_mfar 8 m_far, kAr g a_mdrift 12 m_drift, kAr g a_mtape 60 m_tape, kAr g a_mcommands 155 m_commands_v1]) := hD
  refine lv_istore_n (lv' := [(1, .int r1), (0, .ref (a_mo 0))]) hx hb dX7_runScript_4 rfl hl (by decide) rfl (fun ls hl => ?_)
  refine lv_aload_n hx hb dX7_runScript_5 rfl (lv_at hl 1 rfl) ?_
  refine lv_iconst (v := 0) hx hb dX7_runScript_6 (by decide) ?_
  refine va_put (D := g.1) (ci := 11) (v := .int 0) (ty := .int) (C := RX7) (T := TX7) (N := 20) hx hb hts inX7_runScript_X7 tyX7 tyX7_ok nmX7 hown hE.1 hP hD hS 0 rfl rfl 17 (by decide) (gW hts 1 (.fieldLink RX7 189 "SnowDispatcherModel" "taped" "I") rfl) (fun _ h9 => h9) rfl (by decide +kernel) rfl rfl (Nat.le_of_ble_eq_true rfl) dX7_runScript_7 (fun H locs hP hD hS => ?_)
  have hP : va_P g.1 vwCl (List.flatten [kMo g a_mo a_ms a_mwas a_mtried a_msaved a_mpast a_mfar a_mdrift a_mline a_mtape a_mcommands m_changes m_thrown m_errorAt m_failedAt m_answer m_isSaved m_lined 0 m_here_v1 m_commandMany_v1, kAr g a_ms 130 m_s, kAr g a_mwas 130 m_was, kAr g a_mpast 1040 m_past, kAr g a_mfar 8 m_far, kAr g a_mdrift 12 m_drift, kAr g a_mtape 60 m_tape, kAr g a_mcommands 155 m_commands_v1]) H := hP
  have hD : va_D A (List.flatten [kMo g a_mo a_ms a_mwas a_mtried a_msaved a_mpast a_mfar a_mdrift a_mline a_mtape a_mcommands m_changes m_thrown m_errorAt m_failedAt m_answer m_isSaved m_lined 0 m_here_v1 m_commandMany_v1, kAr g a_ms 130 m_s, kAr g a_mwas 130 m_was, kAr g a_mpast 1040 m_past, kAr g a_mfar 8 m_far, kAr g a_mdrift 12 m_drift, kAr g a_mtape 60 m_tape, kAr g a_mcommands 155 m_commands_v1]) := hD
  refine lv_aload_n hx hb dX7_runScript_10 rfl (lv_at hl 1 rfl) ?_
  refine lv_iload_n hx hb dX7_runScript_11 rfl (lv_at hl 0 rfl) ?_
  refine lv_if_ne (tgt := 19) hx hb dX7_runScript_12 (by decide) (fun c_12 => ?_) (fun c_12 => ?_)
  · have hw := hw.1 c_12
    refine lv_iconst (v := 0) hx hb dX7_runScript_19 (by decide) ?_
    exact J20 0 m_changes m_thrown m_errorAt m_failedAt m_answer 0 m_here_v1 m_commandMany_v1 m_s m_was m_past m_far m_drift m_commands_v1 _ _ _ hw hP hD hS (lv_sub hl [1] rfl)
  · have hw := hw.2 c_12
    refine lv_iconst (v := 1) hx hb dX7_runScript_15 (by decide) ?_
    refine lv_goto (tgt := 20) hx hb dX7_runScript_16 (by decide) ?_
    exact J20 1 m_changes m_thrown m_errorAt m_failedAt m_answer 0 m_here_v1 m_commandMany_v1 m_s m_was m_past m_far m_drift m_commands_v1 _ _ _ hw hP hD hS (lv_sub hl [1] rfl)
abbrev rmX7_number_d0 : Room := { frames := 2, cells := 0, slots := 0, locals := 122 }
set_option maxRecDepth 20000 in
theorem inX7_number_X7 : ∀ w ∈ wsX70, w ∈ wsX7_number := by decide +kernel
set_option maxHeartbeats 4000000 in
set_option maxRecDepth 100000 in
theorem ctX7_number_d0 (l : Launch) (g : GG) (a_mo : Nat → Nat) (a_ms : Nat → Nat) (a_mwas : Nat → Nat) (a_mtried : Nat → Nat) (a_msaved : Nat → Nat) (a_mpast : Nat → Nat) (a_mfar : Nat → Nat) (a_mdrift : Nat → Nat) (a_mline : Nat → Nat) (a_mtape : Nat → Nat) (a_mcommands : Nat → Nat) (sz : Nat) (m_changes : Int32) (m_thrown : Int32) (m_errorAt : Int32) (m_failedAt : Int32) (m_answer : Int32) (m_isSaved : Int32) (m_lined : Int32) (m_taped : Int32) (m_here : Int32) (m_commandMany : Int32) (m_line : Nat → Int32) (x1 : Int32) {post : Int32 → (Nat → Int32) → Prop} (hw : wpX7_number_d0 x1 m_lined m_line post) :
    Met l yX7_number wsX7_number rmX7_number_d0 (gPc g sz (List.flatten [kMo g a_mo a_ms a_mwas a_mtried a_msaved a_mpast a_mfar a_mdrift a_mline a_mtape a_mcommands m_changes m_thrown m_errorAt m_failedAt m_answer m_isSaved m_lined m_taped m_here m_commandMany, kAr g a_mline 40 m_line]) [.ref (a_mo 0), .int x1]) (gQv2 post (fun u1 u2 => gB g (List.flatten [kMo g a_mo a_ms a_mwas a_mtried a_msaved a_mpast a_mfar a_mdrift a_mline a_mtape a_mcommands m_changes m_thrown m_errorAt m_failedAt m_answer m_isSaved m_lined m_taped m_here m_commandMany, kAr g a_mline 40 m_line]) sz (List.flatten [kMo g a_mo a_ms a_mwas a_mtried a_msaved a_mpast a_mfar a_mdrift a_mline a_mtape a_mcommands m_changes m_thrown m_errorAt m_failedAt m_answer m_isSaved u1 m_taped m_here m_commandMany, kAr g a_mline 40 u2])) (va_A (List.flatten [kMo g a_mo a_ms a_mwas a_mtried a_msaved a_mpast a_mfar a_mdrift a_mline a_mtape a_mcommands m_changes m_thrown m_errorAt m_failedAt m_answer m_isSaved m_lined m_taped m_here m_commandMany, kAr g a_mline 40 m_line]) sz)) 0 0 (va_A (List.flatten [kMo g a_mo a_ms a_mwas a_mtried a_msaved a_mpast a_mfar a_mdrift a_mline a_mtape a_mcommands m_changes m_thrown m_errorAt m_failedAt m_answer m_isSaved m_lined m_taped m_here m_commandMany, kAr g a_mline 40 m_line]) sz) := by
  refine gOf (cc := cX7_number) (maxL := 2) (ret := none) (by decide) rfl (Nat.le_of_ble_eq_true rfl) ?_
  intro p e s m below meth c ls Q A hQ hx hb hr hml hts hown hlocks hE hA0 hsz hP hD hA hS hl
  have hl : lv_has ls 2 [(0, .ref (a_mo 0)), (1, .int x1)] := hl
  refine lv_iload_n hx hb dX7_number_0 rfl (lv_at hl 1 rfl) ?_
  refine lv_bipush (v := 10) hx hb dX7_number_1 (by decide) ?_
  refine lv_icmp_lt (tgt := 14) hx hb dX7_number_3 (by decide) (fun c_3 => ?_) (fun c_3 => (hw.2 c_3).elim)
  have hw := hw.1 c_3
  refine lv_aload_n hx hb dX7_number_14 rfl (lv_at hl 0 rfl) ?_
  refine lv_bipush (v := 48) hx hb dX7_number_15 (by decide) ?_
  refine lv_iload_n hx hb dX7_number_17 rfl (lv_at hl 1 rfl) ?_
  refine lv_bipush (v := 10) hx hb dX7_number_18 (by decide) ?_
  refine lv_irem hx hb dX7_number_20 (by decide) ?_
  refine lv_iadd hx hb dX7_number_21 ?_
  refine gCv2 (gRunV (As := [.int (48 + (x1 - x1 / 10 * 10))]) (rest := []) ⟨hx, hb, hml, hown, hts⟩ (ctX7_puts l g a_mo a_ms a_mwas a_mtried a_msaved a_mpast a_mfar a_mdrift a_mline a_mtape a_mcommands _ m_changes m_thrown m_errorAt m_failedAt m_answer m_isSaved m_lined m_taped m_here m_commandMany m_line (48 + (x1 - x1 / 10 * 10)) hw) (cwV 1 hts gX7_number_X7_puts rfl rfl rfl (by decide +kernel) ⟨Nat.le_of_ble_eq_true rfl, Nat.le_of_ble_eq_true rfl⟩) hE (gSub hP [0, 1]) (gDSub hD [0, 1] rfl) 0 11 rfl rfl rfl rfl rfl hl.1 rfl (lv_room (Nat.le_of_ble_eq_true rfl)) dX7_number_22 ⟨Nat.le_of_ble_eq_true rfl, Nat.le_of_ble_eq_true rfl⟩) hP hD hS hA [0, 1] rfl (fun _ _ => rfl) rfl (fun m_lined_v1 m_line_v1 H locs hw hP hD hS => ?_)
  have hP : va_P g.1 vwCl (List.flatten [kMo g a_mo a_ms a_mwas a_mtried a_msaved a_mpast a_mfar a_mdrift a_mline a_mtape a_mcommands m_changes m_thrown m_errorAt m_failedAt m_answer m_isSaved m_lined_v1 m_taped m_here m_commandMany, kAr g a_mline 40 m_line_v1]) H := hP
  have hD : va_D A (List.flatten [kMo g a_mo a_ms a_mwas a_mtried a_msaved a_mpast a_mfar a_mdrift a_mline a_mtape a_mcommands m_changes m_thrown m_errorAt m_failedAt m_answer m_isSaved m_lined_v1 m_taped m_here m_commandMany, kAr g a_mline 40 m_line_v1]) := hD
  subst hQ
  exact W.vret hx hb hr (gRv2 (c1 := m_lined_v1) (c2 := m_line_v1) (wf := _) hA0 hsz hw hP hD hS) hS.2.2 dX7_number_25
abbrev rmX7_number_d1 : Room := { frames := 3, cells := 0, slots := 0, locals := 144 }
set_option maxHeartbeats 4000000 in
set_option maxRecDepth 100000 in
theorem ctX7_number_d1 (l : Launch) (g : GG) (a_mo : Nat → Nat) (a_ms : Nat → Nat) (a_mwas : Nat → Nat) (a_mtried : Nat → Nat) (a_msaved : Nat → Nat) (a_mpast : Nat → Nat) (a_mfar : Nat → Nat) (a_mdrift : Nat → Nat) (a_mline : Nat → Nat) (a_mtape : Nat → Nat) (a_mcommands : Nat → Nat) (sz : Nat) (m_changes : Int32) (m_thrown : Int32) (m_errorAt : Int32) (m_failedAt : Int32) (m_answer : Int32) (m_isSaved : Int32) (m_lined : Int32) (m_taped : Int32) (m_here : Int32) (m_commandMany : Int32) (m_line : Nat → Int32) (x1 : Int32) {post : Int32 → (Nat → Int32) → Prop} (hw : wpX7_number_d1 x1 m_lined m_line post) :
    Met l yX7_number wsX7_number rmX7_number_d1 (gPc g sz (List.flatten [kMo g a_mo a_ms a_mwas a_mtried a_msaved a_mpast a_mfar a_mdrift a_mline a_mtape a_mcommands m_changes m_thrown m_errorAt m_failedAt m_answer m_isSaved m_lined m_taped m_here m_commandMany, kAr g a_mline 40 m_line]) [.ref (a_mo 0), .int x1]) (gQv2 post (fun u1 u2 => gB g (List.flatten [kMo g a_mo a_ms a_mwas a_mtried a_msaved a_mpast a_mfar a_mdrift a_mline a_mtape a_mcommands m_changes m_thrown m_errorAt m_failedAt m_answer m_isSaved m_lined m_taped m_here m_commandMany, kAr g a_mline 40 m_line]) sz (List.flatten [kMo g a_mo a_ms a_mwas a_mtried a_msaved a_mpast a_mfar a_mdrift a_mline a_mtape a_mcommands m_changes m_thrown m_errorAt m_failedAt m_answer m_isSaved u1 m_taped m_here m_commandMany, kAr g a_mline 40 u2])) (va_A (List.flatten [kMo g a_mo a_ms a_mwas a_mtried a_msaved a_mpast a_mfar a_mdrift a_mline a_mtape a_mcommands m_changes m_thrown m_errorAt m_failedAt m_answer m_isSaved m_lined m_taped m_here m_commandMany, kAr g a_mline 40 m_line]) sz)) 0 0 (va_A (List.flatten [kMo g a_mo a_ms a_mwas a_mtried a_msaved a_mpast a_mfar a_mdrift a_mline a_mtape a_mcommands m_changes m_thrown m_errorAt m_failedAt m_answer m_isSaved m_lined m_taped m_here m_commandMany, kAr g a_mline 40 m_line]) sz) := by
  refine gOf (cc := cX7_number) (maxL := 2) (ret := none) (by decide) rfl (Nat.le_of_ble_eq_true rfl) ?_
  intro p e s m below meth c ls Q A hQ hx hb hr hml hts hown hlocks hE hA0 hsz hP hD hA hS hl
  have hl : lv_has ls 2 [(0, .ref (a_mo 0)), (1, .int x1)] := hl
  refine lv_iload_n hx hb dX7_number_0 rfl (lv_at hl 1 rfl) ?_
  refine lv_bipush (v := 10) hx hb dX7_number_1 (by decide) ?_
  refine lv_icmp_lt (tgt := 14) hx hb dX7_number_3 (by decide) (fun c_3 => ?_) (fun c_3 => ?_)
  · have hw := hw.1 c_3
    refine lv_aload_n hx hb dX7_number_14 rfl (lv_at hl 0 rfl) ?_
    refine lv_bipush (v := 48) hx hb dX7_number_15 (by decide) ?_
    refine lv_iload_n hx hb dX7_number_17 rfl (lv_at hl 1 rfl) ?_
    refine lv_bipush (v := 10) hx hb dX7_number_18 (by decide) ?_
    refine lv_irem hx hb dX7_number_20 (by decide) ?_
    refine lv_iadd hx hb dX7_number_21 ?_
    refine gCv2 (gRunV (As := [.int (48 + (x1 - x1 / 10 * 10))]) (rest := []) ⟨hx, hb, hml, hown, hts⟩ (ctX7_puts l g a_mo a_ms a_mwas a_mtried a_msaved a_mpast a_mfar a_mdrift a_mline a_mtape a_mcommands _ m_changes m_thrown m_errorAt m_failedAt m_answer m_isSaved m_lined m_taped m_here m_commandMany m_line (48 + (x1 - x1 / 10 * 10)) hw) (cwV 1 hts gX7_number_X7_puts rfl rfl rfl (by decide +kernel) ⟨Nat.le_of_ble_eq_true rfl, Nat.le_of_ble_eq_true rfl⟩) hE (gSub hP [0, 1]) (gDSub hD [0, 1] rfl) 0 11 rfl rfl rfl rfl rfl hl.1 rfl (lv_room (Nat.le_of_ble_eq_true rfl)) dX7_number_22 ⟨Nat.le_of_ble_eq_true rfl, Nat.le_of_ble_eq_true rfl⟩) hP hD hS hA [0, 1] rfl (fun _ _ => rfl) rfl (fun m_lined_v1 m_line_v1 H locs hw hP hD hS => ?_)
    have hP : va_P g.1 vwCl (List.flatten [kMo g a_mo a_ms a_mwas a_mtried a_msaved a_mpast a_mfar a_mdrift a_mline a_mtape a_mcommands m_changes m_thrown m_errorAt m_failedAt m_answer m_isSaved m_lined_v1 m_taped m_here m_commandMany, kAr g a_mline 40 m_line_v1]) H := hP
    have hD : va_D A (List.flatten [kMo g a_mo a_ms a_mwas a_mtried a_msaved a_mpast a_mfar a_mdrift a_mline a_mtape a_mcommands m_changes m_thrown m_errorAt m_failedAt m_answer m_isSaved m_lined_v1 m_taped m_here m_commandMany, kAr g a_mline 40 m_line_v1]) := hD
    subst hQ
    exact W.vret hx hb hr (gRv2 (c1 := m_lined_v1) (c2 := m_line_v1) (wf := _) hA0 hsz hw hP hD hS) hS.2.2 dX7_number_25
  · have hw := hw.2 c_3
    refine lv_aload_n hx hb dX7_number_6 rfl (lv_at hl 0 rfl) ?_
    refine lv_iload_n hx hb dX7_number_7 rfl (lv_at hl 1 rfl) ?_
    refine lv_bipush (v := 10) hx hb dX7_number_8 (by decide) ?_
    refine lv_idiv hx hb dX7_number_10 (by decide) ?_
    refine gCv2 (gRunV (As := [.int (x1 / 10)]) (rest := []) ⟨hx, hb, hml, hown, hts⟩ (ctX7_number_d0 l g a_mo a_ms a_mwas a_mtried a_msaved a_mpast a_mfar a_mdrift a_mline a_mtape a_mcommands _ m_changes m_thrown m_errorAt m_failedAt m_answer m_isSaved m_lined m_taped m_here m_commandMany m_line (x1 / 10) hw) (cwV 1 hts gX7_number_X7_number rfl rfl rfl (by decide +kernel) ⟨Nat.le_of_ble_eq_true rfl, Nat.le_of_ble_eq_true rfl⟩) hE (gSub hP [0, 1]) (gDSub hD [0, 1] rfl) 0 11 rfl rfl rfl rfl rfl hl.1 rfl (lv_room (Nat.le_of_ble_eq_true rfl)) dX7_number_11 ⟨Nat.le_of_ble_eq_true rfl, Nat.le_of_ble_eq_true rfl⟩) hP hD hS hA [0, 1] rfl (fun _ _ => rfl) rfl (fun m_lined_v2 m_line_v2 H locs hw hP hD hS => ?_)
    have hP : va_P g.1 vwCl (List.flatten [kMo g a_mo a_ms a_mwas a_mtried a_msaved a_mpast a_mfar a_mdrift a_mline a_mtape a_mcommands m_changes m_thrown m_errorAt m_failedAt m_answer m_isSaved m_lined_v2 m_taped m_here m_commandMany, kAr g a_mline 40 m_line_v2]) H := hP
    have hD : va_D A (List.flatten [kMo g a_mo a_ms a_mwas a_mtried a_msaved a_mpast a_mfar a_mdrift a_mline a_mtape a_mcommands m_changes m_thrown m_errorAt m_failedAt m_answer m_isSaved m_lined_v2 m_taped m_here m_commandMany, kAr g a_mline 40 m_line_v2]) := hD
    refine lv_aload_n hx hb dX7_number_14 rfl (lv_at hl 0 rfl) ?_
    refine lv_bipush (v := 48) hx hb dX7_number_15 (by decide) ?_
    refine lv_iload_n hx hb dX7_number_17 rfl (lv_at hl 1 rfl) ?_
    refine lv_bipush (v := 10) hx hb dX7_number_18 (by decide) ?_
    refine lv_irem hx hb dX7_number_20 (by decide) ?_
    refine lv_iadd hx hb dX7_number_21 ?_
    refine gCv2 (gRunV (As := [.int (48 + (x1 - x1 / 10 * 10))]) (rest := []) ⟨hx, hb, hml, hown, hts⟩ (ctX7_puts l g a_mo a_ms a_mwas a_mtried a_msaved a_mpast a_mfar a_mdrift a_mline a_mtape a_mcommands _ m_changes m_thrown m_errorAt m_failedAt m_answer m_isSaved m_lined_v2 m_taped m_here m_commandMany m_line_v2 (48 + (x1 - x1 / 10 * 10)) hw) (cwV 1 hts gX7_number_X7_puts rfl rfl rfl (by decide +kernel) ⟨Nat.le_of_ble_eq_true rfl, Nat.le_of_ble_eq_true rfl⟩) hE (gSub hP [0, 1]) (gDSub hD [0, 1] rfl) 0 11 rfl rfl rfl rfl rfl hl.1 rfl (lv_room (Nat.le_of_ble_eq_true rfl)) dX7_number_22 ⟨Nat.le_of_ble_eq_true rfl, Nat.le_of_ble_eq_true rfl⟩) hP hD hS hA [0, 1] rfl (fun _ _ => rfl) rfl (fun m_lined_v3 m_line_v3 H locs hw hP hD hS => ?_)
    have hP : va_P g.1 vwCl (List.flatten [kMo g a_mo a_ms a_mwas a_mtried a_msaved a_mpast a_mfar a_mdrift a_mline a_mtape a_mcommands m_changes m_thrown m_errorAt m_failedAt m_answer m_isSaved m_lined_v3 m_taped m_here m_commandMany, kAr g a_mline 40 m_line_v3]) H := hP
    have hD : va_D A (List.flatten [kMo g a_mo a_ms a_mwas a_mtried a_msaved a_mpast a_mfar a_mdrift a_mline a_mtape a_mcommands m_changes m_thrown m_errorAt m_failedAt m_answer m_isSaved m_lined_v3 m_taped m_here m_commandMany, kAr g a_mline 40 m_line_v3]) := hD
    subst hQ
    exact W.vret hx hb hr (gRv2 (c1 := m_lined_v3) (c2 := m_line_v3) (wf := _) hA0 hsz hw hP hD hS) hS.2.2 dX7_number_25
abbrev rmX7_number_d2 : Room := { frames := 4, cells := 0, slots := 0, locals := 166 }
set_option maxHeartbeats 4000000 in
set_option maxRecDepth 100000 in
theorem ctX7_number_d2 (l : Launch) (g : GG) (a_mo : Nat → Nat) (a_ms : Nat → Nat) (a_mwas : Nat → Nat) (a_mtried : Nat → Nat) (a_msaved : Nat → Nat) (a_mpast : Nat → Nat) (a_mfar : Nat → Nat) (a_mdrift : Nat → Nat) (a_mline : Nat → Nat) (a_mtape : Nat → Nat) (a_mcommands : Nat → Nat) (sz : Nat) (m_changes : Int32) (m_thrown : Int32) (m_errorAt : Int32) (m_failedAt : Int32) (m_answer : Int32) (m_isSaved : Int32) (m_lined : Int32) (m_taped : Int32) (m_here : Int32) (m_commandMany : Int32) (m_line : Nat → Int32) (x1 : Int32) {post : Int32 → (Nat → Int32) → Prop} (hw : wpX7_number_d2 x1 m_lined m_line post) :
    Met l yX7_number wsX7_number rmX7_number_d2 (gPc g sz (List.flatten [kMo g a_mo a_ms a_mwas a_mtried a_msaved a_mpast a_mfar a_mdrift a_mline a_mtape a_mcommands m_changes m_thrown m_errorAt m_failedAt m_answer m_isSaved m_lined m_taped m_here m_commandMany, kAr g a_mline 40 m_line]) [.ref (a_mo 0), .int x1]) (gQv2 post (fun u1 u2 => gB g (List.flatten [kMo g a_mo a_ms a_mwas a_mtried a_msaved a_mpast a_mfar a_mdrift a_mline a_mtape a_mcommands m_changes m_thrown m_errorAt m_failedAt m_answer m_isSaved m_lined m_taped m_here m_commandMany, kAr g a_mline 40 m_line]) sz (List.flatten [kMo g a_mo a_ms a_mwas a_mtried a_msaved a_mpast a_mfar a_mdrift a_mline a_mtape a_mcommands m_changes m_thrown m_errorAt m_failedAt m_answer m_isSaved u1 m_taped m_here m_commandMany, kAr g a_mline 40 u2])) (va_A (List.flatten [kMo g a_mo a_ms a_mwas a_mtried a_msaved a_mpast a_mfar a_mdrift a_mline a_mtape a_mcommands m_changes m_thrown m_errorAt m_failedAt m_answer m_isSaved m_lined m_taped m_here m_commandMany, kAr g a_mline 40 m_line]) sz)) 0 0 (va_A (List.flatten [kMo g a_mo a_ms a_mwas a_mtried a_msaved a_mpast a_mfar a_mdrift a_mline a_mtape a_mcommands m_changes m_thrown m_errorAt m_failedAt m_answer m_isSaved m_lined m_taped m_here m_commandMany, kAr g a_mline 40 m_line]) sz) := by
  refine gOf (cc := cX7_number) (maxL := 2) (ret := none) (by decide) rfl (Nat.le_of_ble_eq_true rfl) ?_
  intro p e s m below meth c ls Q A hQ hx hb hr hml hts hown hlocks hE hA0 hsz hP hD hA hS hl
  have hl : lv_has ls 2 [(0, .ref (a_mo 0)), (1, .int x1)] := hl
  refine lv_iload_n hx hb dX7_number_0 rfl (lv_at hl 1 rfl) ?_
  refine lv_bipush (v := 10) hx hb dX7_number_1 (by decide) ?_
  refine lv_icmp_lt (tgt := 14) hx hb dX7_number_3 (by decide) (fun c_3 => ?_) (fun c_3 => ?_)
  · have hw := hw.1 c_3
    refine lv_aload_n hx hb dX7_number_14 rfl (lv_at hl 0 rfl) ?_
    refine lv_bipush (v := 48) hx hb dX7_number_15 (by decide) ?_
    refine lv_iload_n hx hb dX7_number_17 rfl (lv_at hl 1 rfl) ?_
    refine lv_bipush (v := 10) hx hb dX7_number_18 (by decide) ?_
    refine lv_irem hx hb dX7_number_20 (by decide) ?_
    refine lv_iadd hx hb dX7_number_21 ?_
    refine gCv2 (gRunV (As := [.int (48 + (x1 - x1 / 10 * 10))]) (rest := []) ⟨hx, hb, hml, hown, hts⟩ (ctX7_puts l g a_mo a_ms a_mwas a_mtried a_msaved a_mpast a_mfar a_mdrift a_mline a_mtape a_mcommands _ m_changes m_thrown m_errorAt m_failedAt m_answer m_isSaved m_lined m_taped m_here m_commandMany m_line (48 + (x1 - x1 / 10 * 10)) hw) (cwV 1 hts gX7_number_X7_puts rfl rfl rfl (by decide +kernel) ⟨Nat.le_of_ble_eq_true rfl, Nat.le_of_ble_eq_true rfl⟩) hE (gSub hP [0, 1]) (gDSub hD [0, 1] rfl) 0 11 rfl rfl rfl rfl rfl hl.1 rfl (lv_room (Nat.le_of_ble_eq_true rfl)) dX7_number_22 ⟨Nat.le_of_ble_eq_true rfl, Nat.le_of_ble_eq_true rfl⟩) hP hD hS hA [0, 1] rfl (fun _ _ => rfl) rfl (fun m_lined_v1 m_line_v1 H locs hw hP hD hS => ?_)
    have hP : va_P g.1 vwCl (List.flatten [kMo g a_mo a_ms a_mwas a_mtried a_msaved a_mpast a_mfar a_mdrift a_mline a_mtape a_mcommands m_changes m_thrown m_errorAt m_failedAt m_answer m_isSaved m_lined_v1 m_taped m_here m_commandMany, kAr g a_mline 40 m_line_v1]) H := hP
    have hD : va_D A (List.flatten [kMo g a_mo a_ms a_mwas a_mtried a_msaved a_mpast a_mfar a_mdrift a_mline a_mtape a_mcommands m_changes m_thrown m_errorAt m_failedAt m_answer m_isSaved m_lined_v1 m_taped m_here m_commandMany, kAr g a_mline 40 m_line_v1]) := hD
    subst hQ
    exact W.vret hx hb hr (gRv2 (c1 := m_lined_v1) (c2 := m_line_v1) (wf := _) hA0 hsz hw hP hD hS) hS.2.2 dX7_number_25
  · have hw := hw.2 c_3
    refine lv_aload_n hx hb dX7_number_6 rfl (lv_at hl 0 rfl) ?_
    refine lv_iload_n hx hb dX7_number_7 rfl (lv_at hl 1 rfl) ?_
    refine lv_bipush (v := 10) hx hb dX7_number_8 (by decide) ?_
    refine lv_idiv hx hb dX7_number_10 (by decide) ?_
    refine gCv2 (gRunV (As := [.int (x1 / 10)]) (rest := []) ⟨hx, hb, hml, hown, hts⟩ (ctX7_number_d1 l g a_mo a_ms a_mwas a_mtried a_msaved a_mpast a_mfar a_mdrift a_mline a_mtape a_mcommands _ m_changes m_thrown m_errorAt m_failedAt m_answer m_isSaved m_lined m_taped m_here m_commandMany m_line (x1 / 10) hw) (cwV 1 hts gX7_number_X7_number rfl rfl rfl (by decide +kernel) ⟨Nat.le_of_ble_eq_true rfl, Nat.le_of_ble_eq_true rfl⟩) hE (gSub hP [0, 1]) (gDSub hD [0, 1] rfl) 0 11 rfl rfl rfl rfl rfl hl.1 rfl (lv_room (Nat.le_of_ble_eq_true rfl)) dX7_number_11 ⟨Nat.le_of_ble_eq_true rfl, Nat.le_of_ble_eq_true rfl⟩) hP hD hS hA [0, 1] rfl (fun _ _ => rfl) rfl (fun m_lined_v2 m_line_v2 H locs hw hP hD hS => ?_)
    have hP : va_P g.1 vwCl (List.flatten [kMo g a_mo a_ms a_mwas a_mtried a_msaved a_mpast a_mfar a_mdrift a_mline a_mtape a_mcommands m_changes m_thrown m_errorAt m_failedAt m_answer m_isSaved m_lined_v2 m_taped m_here m_commandMany, kAr g a_mline 40 m_line_v2]) H := hP
    have hD : va_D A (List.flatten [kMo g a_mo a_ms a_mwas a_mtried a_msaved a_mpast a_mfar a_mdrift a_mline a_mtape a_mcommands m_changes m_thrown m_errorAt m_failedAt m_answer m_isSaved m_lined_v2 m_taped m_here m_commandMany, kAr g a_mline 40 m_line_v2]) := hD
    refine lv_aload_n hx hb dX7_number_14 rfl (lv_at hl 0 rfl) ?_
    refine lv_bipush (v := 48) hx hb dX7_number_15 (by decide) ?_
    refine lv_iload_n hx hb dX7_number_17 rfl (lv_at hl 1 rfl) ?_
    refine lv_bipush (v := 10) hx hb dX7_number_18 (by decide) ?_
    refine lv_irem hx hb dX7_number_20 (by decide) ?_
    refine lv_iadd hx hb dX7_number_21 ?_
    refine gCv2 (gRunV (As := [.int (48 + (x1 - x1 / 10 * 10))]) (rest := []) ⟨hx, hb, hml, hown, hts⟩ (ctX7_puts l g a_mo a_ms a_mwas a_mtried a_msaved a_mpast a_mfar a_mdrift a_mline a_mtape a_mcommands _ m_changes m_thrown m_errorAt m_failedAt m_answer m_isSaved m_lined_v2 m_taped m_here m_commandMany m_line_v2 (48 + (x1 - x1 / 10 * 10)) hw) (cwV 1 hts gX7_number_X7_puts rfl rfl rfl (by decide +kernel) ⟨Nat.le_of_ble_eq_true rfl, Nat.le_of_ble_eq_true rfl⟩) hE (gSub hP [0, 1]) (gDSub hD [0, 1] rfl) 0 11 rfl rfl rfl rfl rfl hl.1 rfl (lv_room (Nat.le_of_ble_eq_true rfl)) dX7_number_22 ⟨Nat.le_of_ble_eq_true rfl, Nat.le_of_ble_eq_true rfl⟩) hP hD hS hA [0, 1] rfl (fun _ _ => rfl) rfl (fun m_lined_v3 m_line_v3 H locs hw hP hD hS => ?_)
    have hP : va_P g.1 vwCl (List.flatten [kMo g a_mo a_ms a_mwas a_mtried a_msaved a_mpast a_mfar a_mdrift a_mline a_mtape a_mcommands m_changes m_thrown m_errorAt m_failedAt m_answer m_isSaved m_lined_v3 m_taped m_here m_commandMany, kAr g a_mline 40 m_line_v3]) H := hP
    have hD : va_D A (List.flatten [kMo g a_mo a_ms a_mwas a_mtried a_msaved a_mpast a_mfar a_mdrift a_mline a_mtape a_mcommands m_changes m_thrown m_errorAt m_failedAt m_answer m_isSaved m_lined_v3 m_taped m_here m_commandMany, kAr g a_mline 40 m_line_v3]) := hD
    subst hQ
    exact W.vret hx hb hr (gRv2 (c1 := m_lined_v3) (c2 := m_line_v3) (wf := _) hA0 hsz hw hP hD hS) hS.2.2 dX7_number_25
abbrev rmX7_renderStreet : Room := { frames := 5, cells := 0, slots := 0, locals := 188 }
set_option maxRecDepth 20000 in
theorem inX7_renderStreet_X7 : ∀ w ∈ wsX70, w ∈ wsX7_renderStreet := by decide +kernel
set_option maxHeartbeats 4000000 in
set_option maxRecDepth 100000 in
theorem ctX7_renderStreet (l : Launch) (g : GG) (a_mo : Nat → Nat) (a_ms : Nat → Nat) (a_mwas : Nat → Nat) (a_mtried : Nat → Nat) (a_msaved : Nat → Nat) (a_mpast : Nat → Nat) (a_mfar : Nat → Nat) (a_mdrift : Nat → Nat) (a_mline : Nat → Nat) (a_mtape : Nat → Nat) (a_mcommands : Nat → Nat) (sz : Nat) (m_changes : Int32) (m_thrown : Int32) (m_errorAt : Int32) (m_failedAt : Int32) (m_answer : Int32) (m_isSaved : Int32) (m_lined : Int32) (m_taped : Int32) (m_here : Int32) (m_commandMany : Int32) (m_s : Nat → Int32) (m_line : Nat → Int32) (x1 : Int32) {post : Int32 → Int32 → Int32 → (Nat → Int32) → Prop} (hw : wpX7_renderStreet x1 m_thrown m_lined m_s m_line post) :
    Met l yX7_renderStreet wsX7_renderStreet rmX7_renderStreet (gPc g sz (List.flatten [kMo g a_mo a_ms a_mwas a_mtried a_msaved a_mpast a_mfar a_mdrift a_mline a_mtape a_mcommands m_changes m_thrown m_errorAt m_failedAt m_answer m_isSaved m_lined m_taped m_here m_commandMany, kAr g a_ms 130 m_s, kAr g a_mline 40 m_line]) [.ref (a_mo 0), .int x1]) (gQi3 post (fun u1 u2 u3 => gB g (List.flatten [kMo g a_mo a_ms a_mwas a_mtried a_msaved a_mpast a_mfar a_mdrift a_mline a_mtape a_mcommands m_changes m_thrown m_errorAt m_failedAt m_answer m_isSaved m_lined m_taped m_here m_commandMany, kAr g a_ms 130 m_s, kAr g a_mline 40 m_line]) sz (List.flatten [kMo g a_mo a_ms a_mwas a_mtried a_msaved a_mpast a_mfar a_mdrift a_mline a_mtape a_mcommands m_changes u1 m_errorAt m_failedAt m_answer m_isSaved u2 m_taped m_here m_commandMany, kAr g a_ms 130 m_s, kAr g a_mline 40 u3])) (va_A (List.flatten [kMo g a_mo a_ms a_mwas a_mtried a_msaved a_mpast a_mfar a_mdrift a_mline a_mtape a_mcommands m_changes m_thrown m_errorAt m_failedAt m_answer m_isSaved m_lined m_taped m_here m_commandMany, kAr g a_ms 130 m_s, kAr g a_mline 40 m_line]) sz)) 0 0 (va_A (List.flatten [kMo g a_mo a_ms a_mwas a_mtried a_msaved a_mpast a_mfar a_mdrift a_mline a_mtape a_mcommands m_changes m_thrown m_errorAt m_failedAt m_answer m_isSaved m_lined m_taped m_here m_commandMany, kAr g a_ms 130 m_s, kAr g a_mline 40 m_line]) sz) := by
  refine gOf (cc := cX7_renderStreet) (maxL := 2) (ret := (some .int)) (by decide) rfl (Nat.le_of_ble_eq_true rfl) ?_
  intro p e s m below meth c ls Q A hQ hx hb hr hml hts hown hlocks hE hA0 hsz hP hD hA hS hl
  have hl : lv_has ls 2 [(0, .ref (a_mo 0)), (1, .int x1)] := hl
  have J14 : ∀ (z1_14 : Int32) (m_thrown_14 : Int32) (m_lined_14 : Int32) (m_line_14 : Nat → Int32) (H : Heap) (locs : List Loc) (ls : Array Slot), wpX7_renderStreet_L14 x1 m_s post z1_14 m_thrown_14 m_lined_14 m_line_14 → va_P g.1 vwCl (List.flatten [kMo g a_mo a_ms a_mwas a_mtried a_msaved a_mpast a_mfar a_mdrift a_mline a_mtape a_mcommands m_changes m_thrown_14 m_errorAt m_failedAt m_answer m_isSaved m_lined_14 m_taped m_here m_commandMany, kAr g a_ms 130 m_s, kAr g a_mline 40 m_line_14]) H → va_D A (List.flatten [kMo g a_mo a_ms a_mwas a_mtried a_msaved a_mpast a_mfar a_mdrift a_mline a_mtape a_mcommands m_changes m_thrown_14 m_errorAt m_failedAt m_answer m_isSaved m_lined_14 m_taped m_here m_commandMany, kAr g a_ms 130 m_s, kAr g a_mline 40 m_line_14]) → va_S A s.heap H locs → lv_has ls 2 [(0, .ref (a_mo 0)), (1, .int x1)] → W p l e rmX7_renderStreet s m (([.ref (a_mo 0), .int x1] : List Value).toArray) below meth c H locs 0 0 Q (F0 m 14 ls [.int z1_14, .ref (a_mo 0)]) := by
    intro z1_14 m_thrown_14 m_lined_14 m_line_14 H locs ls hw hP hD hS hl
    refine lv_iconst (v := 1) hx hb dX7_renderStreet_14 (by decide) ?_
    refine gCi1 (gRunV (As := [.int z1_14, .int 1]) (rest := []) ⟨hx, hb, hml, hown, hts⟩ (ctX7_isThrown l g a_mo a_ms a_mwas a_mtried a_msaved a_mpast a_mfar a_mdrift a_mline a_mtape a_mcommands _ m_changes m_thrown_14 m_errorAt m_failedAt m_answer m_isSaved m_lined_14 m_taped m_here m_commandMany z1_14 1 hw) (cwV 2 hts gX7_renderStreet_X7_isThrown rfl rfl rfl (by decide +kernel) ⟨Nat.le_of_ble_eq_true rfl, Nat.le_of_ble_eq_true rfl⟩) hE (gSub hP [0]) (gDSub hD [0] rfl) 0 11 rfl rfl rfl rfl rfl hl.1 rfl (lv_room (Nat.le_of_ble_eq_true rfl)) dX7_renderStreet_15 ⟨Nat.le_of_ble_eq_true rfl, Nat.le_of_ble_eq_true rfl⟩) hP hD hS hA [0] rfl (fun _ => rfl) rfl (fun r2 m_thrown_v2 H locs hw hP hD hS => ?_)
    have hP : va_P g.1 vwCl (List.flatten [kMo g a_mo a_ms a_mwas a_mtried a_msaved a_mpast a_mfar a_mdrift a_mline a_mtape a_mcommands m_changes m_thrown_v2 m_errorAt m_failedAt m_answer m_isSaved m_lined_14 m_taped m_here m_commandMany, kAr g a_ms 130 m_s, kAr g a_mline 40 m_line_14]) H := hP
    have hD : va_D A (List.flatten [kMo g a_mo a_ms a_mwas a_mtried a_msaved a_mpast a_mfar a_mdrift a_mline a_mtape a_mcommands m_changes m_thrown_v2 m_errorAt m_failedAt m_answer m_isSaved m_lined_14 m_taped m_here m_commandMany, kAr g a_ms 130 m_s, kAr g a_mline 40 m_line_14]) := hD
    refine lv_if_eq (tgt := 23) hx hb dX7_renderStreet_18 (by decide) (fun c_18 => ?_) (fun c_18 => ?_)
    · have hw := hw.1 c_18
      refine lv_aload_n hx hb dX7_renderStreet_23 rfl (lv_at hl 0 rfl) ?_
      refine lv_iconst (v := 0) hx hb dX7_renderStreet_24 (by decide) ?_
      refine va_put (D := g.1) (ci := 11) (v := .int 0) (ty := .int) (C := RX7) (T := TX7) (N := 20) hx hb hts inX7_renderStreet_X7 tyX7 tyX7_ok nmX7 hown hE.1 hP hD hS 0 rfl rfl 14 (by decide) (gW hts 1 (.fieldLink RX7 180 "SnowDispatcherModel" "lined" "I") rfl) (fun _ h9 => h9) rfl (by decide +kernel) rfl rfl (Nat.le_of_ble_eq_true rfl) dX7_renderStreet_25 (fun H locs hP hD hS => ?_)
      have hP : va_P g.1 vwCl (List.flatten [kMo g a_mo a_ms a_mwas a_mtried a_msaved a_mpast a_mfar a_mdrift a_mline a_mtape a_mcommands m_changes m_thrown_v2 m_errorAt m_failedAt m_answer m_isSaved 0 m_taped m_here m_commandMany, kAr g a_ms 130 m_s, kAr g a_mline 40 m_line_14]) H := hP
      have hD : va_D A (List.flatten [kMo g a_mo a_ms a_mwas a_mtried a_msaved a_mpast a_mfar a_mdrift a_mline a_mtape a_mcommands m_changes m_thrown_v2 m_errorAt m_failedAt m_answer m_isSaved 0 m_taped m_here m_commandMany, kAr g a_ms 130 m_s, kAr g a_mline 40 m_line_14]) := hD
      refine lv_aload_n hx hb dX7_renderStreet_28 rfl (lv_at hl 0 rfl) ?_
      refine lv_iload_n hx hb dX7_renderStreet_29 rfl (lv_at hl 1 rfl) ?_
      refine gCv2 (gRunV (As := [.int x1]) (rest := []) ⟨hx, hb, hml, hown, hts⟩ (ctX7_number_d2 l g a_mo a_ms a_mwas a_mtried a_msaved a_mpast a_mfar a_mdrift a_mline a_mtape a_mcommands _ m_changes m_thrown_v2 m_errorAt m_failedAt m_answer m_isSaved 0 m_taped m_here m_commandMany m_line_14 x1 hw) (cwV 1 hts gX7_renderStreet_X7_number rfl rfl rfl (by decide +kernel) ⟨Nat.le_of_ble_eq_true rfl, Nat.le_of_ble_eq_true rfl⟩) hE (gSub hP [0, 2]) (gDSub hD [0, 2] rfl) 0 11 rfl rfl rfl rfl rfl hl.1 rfl (lv_room (Nat.le_of_ble_eq_true rfl)) dX7_renderStreet_30 ⟨Nat.le_of_ble_eq_true rfl, Nat.le_of_ble_eq_true rfl⟩) hP hD hS hA [0, 2] rfl (fun _ _ => rfl) rfl (fun m_lined_v3 m_line_v3 H locs hw hP hD hS => ?_)
      have hP : va_P g.1 vwCl (List.flatten [kMo g a_mo a_ms a_mwas a_mtried a_msaved a_mpast a_mfar a_mdrift a_mline a_mtape a_mcommands m_changes m_thrown_v2 m_errorAt m_failedAt m_answer m_isSaved m_lined_v3 m_taped m_here m_commandMany, kAr g a_ms 130 m_s, kAr g a_mline 40 m_line_v3]) H := hP
      have hD : va_D A (List.flatten [kMo g a_mo a_ms a_mwas a_mtried a_msaved a_mpast a_mfar a_mdrift a_mline a_mtape a_mcommands m_changes m_thrown_v2 m_errorAt m_failedAt m_answer m_isSaved m_lined_v3 m_taped m_here m_commandMany, kAr g a_ms 130 m_s, kAr g a_mline 40 m_line_v3]) := hD
      refine lv_aload_n hx hb dX7_renderStreet_33 rfl (lv_at hl 0 rfl) ?_
      refine lv_bipush (v := 58) hx hb dX7_renderStreet_34 (by decide) ?_
      refine gCv2 (gRunV (As := [.int 58]) (rest := []) ⟨hx, hb, hml, hown, hts⟩ (ctX7_puts l g a_mo a_ms a_mwas a_mtried a_msaved a_mpast a_mfar a_mdrift a_mline a_mtape a_mcommands _ m_changes m_thrown_v2 m_errorAt m_failedAt m_answer m_isSaved m_lined_v3 m_taped m_here m_commandMany m_line_v3 58 hw) (cwV 1 hts gX7_renderStreet_X7_puts rfl rfl rfl (by decide +kernel) ⟨Nat.le_of_ble_eq_true rfl, Nat.le_of_ble_eq_true rfl⟩) hE (gSub hP [0, 2]) (gDSub hD [0, 2] rfl) 0 11 rfl rfl rfl rfl rfl hl.1 rfl (lv_room (Nat.le_of_ble_eq_true rfl)) dX7_renderStreet_36 ⟨Nat.le_of_ble_eq_true rfl, Nat.le_of_ble_eq_true rfl⟩) hP hD hS hA [0, 2] rfl (fun _ _ => rfl) rfl (fun m_lined_v4 m_line_v4 H locs hw hP hD hS => ?_)
      have hP : va_P g.1 vwCl (List.flatten [kMo g a_mo a_ms a_mwas a_mtried a_msaved a_mpast a_mfar a_mdrift a_mline a_mtape a_mcommands m_changes m_thrown_v2 m_errorAt m_failedAt m_answer m_isSaved m_lined_v4 m_taped m_here m_commandMany, kAr g a_ms 130 m_s, kAr g a_mline 40 m_line_v4]) H := hP
      have hD : va_D A (List.flatten [kMo g a_mo a_ms a_mwas a_mtried a_msaved a_mpast a_mfar a_mdrift a_mline a_mtape a_mcommands m_changes m_thrown_v2 m_errorAt m_failedAt m_answer m_isSaved m_lined_v4 m_taped m_here m_commandMany, kAr g a_ms 130 m_s, kAr g a_mline 40 m_line_v4]) := hD
      refine lv_aload_n hx hb dX7_renderStreet_39 rfl (lv_at hl 0 rfl) ?_
      refine lv_aload_n hx hb dX7_renderStreet_40 rfl (lv_at hl 0 rfl) ?_
      refine lv_iload_n hx hb dX7_renderStreet_41 rfl (lv_at hl 1 rfl) ?_
      refine lv_iconst (v := 0) hx hb dX7_renderStreet_42 (by decide) ?_
      refine gCi0 (gRunV (As := [.int x1, .int 0]) (rest := [.ref (a_mo 0)]) ⟨hx, hb, hml, hown, hts⟩ (ctX7_of l g a_mo a_ms a_mwas a_mtried a_msaved a_mpast a_mfar a_mdrift a_mline a_mtape a_mcommands _ m_changes m_thrown_v2 m_errorAt m_failedAt m_answer m_isSaved m_lined_v4 m_taped m_here m_commandMany m_s x1 0 hw) (cwV 2 hts gX7_renderStreet_X7_of rfl rfl rfl (by decide +kernel) ⟨Nat.le_of_ble_eq_true rfl, Nat.le_of_ble_eq_true rfl⟩) hE (gSub hP [0, 1]) (gDSub hD [0, 1] rfl) 0 11 rfl rfl rfl rfl rfl hl.1 rfl (lv_room (Nat.le_of_ble_eq_true rfl)) dX7_renderStreet_43 ⟨Nat.le_of_ble_eq_true rfl, Nat.le_of_ble_eq_true rfl⟩) hP hD hS hA [0, 1] rfl rfl rfl (fun r5 H locs hw hP hD hS => ?_)
      have hP : va_P g.1 vwCl (List.flatten [kMo g a_mo a_ms a_mwas a_mtried a_msaved a_mpast a_mfar a_mdrift a_mline a_mtape a_mcommands m_changes m_thrown_v2 m_errorAt m_failedAt m_answer m_isSaved m_lined_v4 m_taped m_here m_commandMany, kAr g a_ms 130 m_s, kAr g a_mline 40 m_line_v4]) H := hP
      have hD : va_D A (List.flatten [kMo g a_mo a_ms a_mwas a_mtried a_msaved a_mpast a_mfar a_mdrift a_mline a_mtape a_mcommands m_changes m_thrown_v2 m_errorAt m_failedAt m_answer m_isSaved m_lined_v4 m_taped m_here m_commandMany, kAr g a_ms 130 m_s, kAr g a_mline 40 m_line_v4]) := hD
      refine gCv2 (gRunV (As := [.int r5]) (rest := []) ⟨hx, hb, hml, hown, hts⟩ (ctX7_number_d2 l g a_mo a_ms a_mwas a_mtried a_msaved a_mpast a_mfar a_mdrift a_mline a_mtape a_mcommands _ m_changes m_thrown_v2 m_errorAt m_failedAt m_answer m_isSaved m_lined_v4 m_taped m_here m_commandMany m_line_v4 r5 hw) (cwV 1 hts gX7_renderStreet_X7_number rfl rfl rfl (by decide +kernel) ⟨Nat.le_of_ble_eq_true rfl, Nat.le_of_ble_eq_true rfl⟩) hE (gSub hP [0, 2]) (gDSub hD [0, 2] rfl) 0 11 rfl rfl rfl rfl rfl hl.1 rfl (lv_room (Nat.le_of_ble_eq_true rfl)) dX7_renderStreet_46 ⟨Nat.le_of_ble_eq_true rfl, Nat.le_of_ble_eq_true rfl⟩) hP hD hS hA [0, 2] rfl (fun _ _ => rfl) rfl (fun m_lined_v6 m_line_v6 H locs hw hP hD hS => ?_)
      have hP : va_P g.1 vwCl (List.flatten [kMo g a_mo a_ms a_mwas a_mtried a_msaved a_mpast a_mfar a_mdrift a_mline a_mtape a_mcommands m_changes m_thrown_v2 m_errorAt m_failedAt m_answer m_isSaved m_lined_v6 m_taped m_here m_commandMany, kAr g a_ms 130 m_s, kAr g a_mline 40 m_line_v6]) H := hP
      have hD : va_D A (List.flatten [kMo g a_mo a_ms a_mwas a_mtried a_msaved a_mpast a_mfar a_mdrift a_mline a_mtape a_mcommands m_changes m_thrown_v2 m_errorAt m_failedAt m_answer m_isSaved m_lined_v6 m_taped m_here m_commandMany, kAr g a_ms 130 m_s, kAr g a_mline 40 m_line_v6]) := hD
      refine lv_aload_n hx hb dX7_renderStreet_49 rfl (lv_at hl 0 rfl) ?_
      refine lv_bipush (v := 45) hx hb dX7_renderStreet_50 (by decide) ?_
      refine gCv2 (gRunV (As := [.int 45]) (rest := []) ⟨hx, hb, hml, hown, hts⟩ (ctX7_puts l g a_mo a_ms a_mwas a_mtried a_msaved a_mpast a_mfar a_mdrift a_mline a_mtape a_mcommands _ m_changes m_thrown_v2 m_errorAt m_failedAt m_answer m_isSaved m_lined_v6 m_taped m_here m_commandMany m_line_v6 45 hw) (cwV 1 hts gX7_renderStreet_X7_puts rfl rfl rfl (by decide +kernel) ⟨Nat.le_of_ble_eq_true rfl, Nat.le_of_ble_eq_true rfl⟩) hE (gSub hP [0, 2]) (gDSub hD [0, 2] rfl) 0 11 rfl rfl rfl rfl rfl hl.1 rfl (lv_room (Nat.le_of_ble_eq_true rfl)) dX7_renderStreet_52 ⟨Nat.le_of_ble_eq_true rfl, Nat.le_of_ble_eq_true rfl⟩) hP hD hS hA [0, 2] rfl (fun _ _ => rfl) rfl (fun m_lined_v7 m_line_v7 H locs hw hP hD hS => ?_)
      have hP : va_P g.1 vwCl (List.flatten [kMo g a_mo a_ms a_mwas a_mtried a_msaved a_mpast a_mfar a_mdrift a_mline a_mtape a_mcommands m_changes m_thrown_v2 m_errorAt m_failedAt m_answer m_isSaved m_lined_v7 m_taped m_here m_commandMany, kAr g a_ms 130 m_s, kAr g a_mline 40 m_line_v7]) H := hP
      have hD : va_D A (List.flatten [kMo g a_mo a_ms a_mwas a_mtried a_msaved a_mpast a_mfar a_mdrift a_mline a_mtape a_mcommands m_changes m_thrown_v2 m_errorAt m_failedAt m_answer m_isSaved m_lined_v7 m_taped m_here m_commandMany, kAr g a_ms 130 m_s, kAr g a_mline 40 m_line_v7]) := hD
      refine lv_aload_n hx hb dX7_renderStreet_55 rfl (lv_at hl 0 rfl) ?_
      refine lv_aload_n hx hb dX7_renderStreet_56 rfl (lv_at hl 0 rfl) ?_
      refine lv_iload_n hx hb dX7_renderStreet_57 rfl (lv_at hl 1 rfl) ?_
      refine lv_iconst (v := 1) hx hb dX7_renderStreet_58 (by decide) ?_
      refine gCi0 (gRunV (As := [.int x1, .int 1]) (rest := [.ref (a_mo 0)]) ⟨hx, hb, hml, hown, hts⟩ (ctX7_of l g a_mo a_ms a_mwas a_mtried a_msaved a_mpast a_mfar a_mdrift a_mline a_mtape a_mcommands _ m_changes m_thrown_v2 m_errorAt m_failedAt m_answer m_isSaved m_lined_v7 m_taped m_here m_commandMany m_s x1 1 hw) (cwV 2 hts gX7_renderStreet_X7_of rfl rfl rfl (by decide +kernel) ⟨Nat.le_of_ble_eq_true rfl, Nat.le_of_ble_eq_true rfl⟩) hE (gSub hP [0, 1]) (gDSub hD [0, 1] rfl) 0 11 rfl rfl rfl rfl rfl hl.1 rfl (lv_room (Nat.le_of_ble_eq_true rfl)) dX7_renderStreet_59 ⟨Nat.le_of_ble_eq_true rfl, Nat.le_of_ble_eq_true rfl⟩) hP hD hS hA [0, 1] rfl rfl rfl (fun r8 H locs hw hP hD hS => ?_)
      have hP : va_P g.1 vwCl (List.flatten [kMo g a_mo a_ms a_mwas a_mtried a_msaved a_mpast a_mfar a_mdrift a_mline a_mtape a_mcommands m_changes m_thrown_v2 m_errorAt m_failedAt m_answer m_isSaved m_lined_v7 m_taped m_here m_commandMany, kAr g a_ms 130 m_s, kAr g a_mline 40 m_line_v7]) H := hP
      have hD : va_D A (List.flatten [kMo g a_mo a_ms a_mwas a_mtried a_msaved a_mpast a_mfar a_mdrift a_mline a_mtape a_mcommands m_changes m_thrown_v2 m_errorAt m_failedAt m_answer m_isSaved m_lined_v7 m_taped m_here m_commandMany, kAr g a_ms 130 m_s, kAr g a_mline 40 m_line_v7]) := hD
      refine gCv2 (gRunV (As := [.int r8]) (rest := []) ⟨hx, hb, hml, hown, hts⟩ (ctX7_number_d2 l g a_mo a_ms a_mwas a_mtried a_msaved a_mpast a_mfar a_mdrift a_mline a_mtape a_mcommands _ m_changes m_thrown_v2 m_errorAt m_failedAt m_answer m_isSaved m_lined_v7 m_taped m_here m_commandMany m_line_v7 r8 hw) (cwV 1 hts gX7_renderStreet_X7_number rfl rfl rfl (by decide +kernel) ⟨Nat.le_of_ble_eq_true rfl, Nat.le_of_ble_eq_true rfl⟩) hE (gSub hP [0, 2]) (gDSub hD [0, 2] rfl) 0 11 rfl rfl rfl rfl rfl hl.1 rfl (lv_room (Nat.le_of_ble_eq_true rfl)) dX7_renderStreet_62 ⟨Nat.le_of_ble_eq_true rfl, Nat.le_of_ble_eq_true rfl⟩) hP hD hS hA [0, 2] rfl (fun _ _ => rfl) rfl (fun m_lined_v9 m_line_v9 H locs hw hP hD hS => ?_)
      have hP : va_P g.1 vwCl (List.flatten [kMo g a_mo a_ms a_mwas a_mtried a_msaved a_mpast a_mfar a_mdrift a_mline a_mtape a_mcommands m_changes m_thrown_v2 m_errorAt m_failedAt m_answer m_isSaved m_lined_v9 m_taped m_here m_commandMany, kAr g a_ms 130 m_s, kAr g a_mline 40 m_line_v9]) H := hP
      have hD : va_D A (List.flatten [kMo g a_mo a_ms a_mwas a_mtried a_msaved a_mpast a_mfar a_mdrift a_mline a_mtape a_mcommands m_changes m_thrown_v2 m_errorAt m_failedAt m_answer m_isSaved m_lined_v9 m_taped m_here m_commandMany, kAr g a_ms 130 m_s, kAr g a_mline 40 m_line_v9]) := hD
      refine lv_aload_n hx hb dX7_renderStreet_65 rfl (lv_at hl 0 rfl) ?_
      refine lv_aload_n hx hb dX7_renderStreet_66 rfl (lv_at hl 0 rfl) ?_
      refine lv_iload_n hx hb dX7_renderStreet_67 rfl (lv_at hl 1 rfl) ?_
      refine lv_iconst (v := 2) hx hb dX7_renderStreet_68 (by decide) ?_
      refine gCi0 (gRunV (As := [.int x1, .int 2]) (rest := [.ref (a_mo 0)]) ⟨hx, hb, hml, hown, hts⟩ (ctX7_of l g a_mo a_ms a_mwas a_mtried a_msaved a_mpast a_mfar a_mdrift a_mline a_mtape a_mcommands _ m_changes m_thrown_v2 m_errorAt m_failedAt m_answer m_isSaved m_lined_v9 m_taped m_here m_commandMany m_s x1 2 hw) (cwV 2 hts gX7_renderStreet_X7_of rfl rfl rfl (by decide +kernel) ⟨Nat.le_of_ble_eq_true rfl, Nat.le_of_ble_eq_true rfl⟩) hE (gSub hP [0, 1]) (gDSub hD [0, 1] rfl) 0 11 rfl rfl rfl rfl rfl hl.1 rfl (lv_room (Nat.le_of_ble_eq_true rfl)) dX7_renderStreet_69 ⟨Nat.le_of_ble_eq_true rfl, Nat.le_of_ble_eq_true rfl⟩) hP hD hS hA [0, 1] rfl rfl rfl (fun r10 H locs hw hP hD hS => ?_)
      have hP : va_P g.1 vwCl (List.flatten [kMo g a_mo a_ms a_mwas a_mtried a_msaved a_mpast a_mfar a_mdrift a_mline a_mtape a_mcommands m_changes m_thrown_v2 m_errorAt m_failedAt m_answer m_isSaved m_lined_v9 m_taped m_here m_commandMany, kAr g a_ms 130 m_s, kAr g a_mline 40 m_line_v9]) H := hP
      have hD : va_D A (List.flatten [kMo g a_mo a_ms a_mwas a_mtried a_msaved a_mpast a_mfar a_mdrift a_mline a_mtape a_mcommands m_changes m_thrown_v2 m_errorAt m_failedAt m_answer m_isSaved m_lined_v9 m_taped m_here m_commandMany, kAr g a_ms 130 m_s, kAr g a_mline 40 m_line_v9]) := hD
      refine gCv2 (gRunV (As := [.int r10]) (rest := []) ⟨hx, hb, hml, hown, hts⟩ (ctX7_puts l g a_mo a_ms a_mwas a_mtried a_msaved a_mpast a_mfar a_mdrift a_mline a_mtape a_mcommands _ m_changes m_thrown_v2 m_errorAt m_failedAt m_answer m_isSaved m_lined_v9 m_taped m_here m_commandMany m_line_v9 r10 hw) (cwV 1 hts gX7_renderStreet_X7_puts rfl rfl rfl (by decide +kernel) ⟨Nat.le_of_ble_eq_true rfl, Nat.le_of_ble_eq_true rfl⟩) hE (gSub hP [0, 2]) (gDSub hD [0, 2] rfl) 0 11 rfl rfl rfl rfl rfl hl.1 rfl (lv_room (Nat.le_of_ble_eq_true rfl)) dX7_renderStreet_72 ⟨Nat.le_of_ble_eq_true rfl, Nat.le_of_ble_eq_true rfl⟩) hP hD hS hA [0, 2] rfl (fun _ _ => rfl) rfl (fun m_lined_v11 m_line_v11 H locs hw hP hD hS => ?_)
      have hP : va_P g.1 vwCl (List.flatten [kMo g a_mo a_ms a_mwas a_mtried a_msaved a_mpast a_mfar a_mdrift a_mline a_mtape a_mcommands m_changes m_thrown_v2 m_errorAt m_failedAt m_answer m_isSaved m_lined_v11 m_taped m_here m_commandMany, kAr g a_ms 130 m_s, kAr g a_mline 40 m_line_v11]) H := hP
      have hD : va_D A (List.flatten [kMo g a_mo a_ms a_mwas a_mtried a_msaved a_mpast a_mfar a_mdrift a_mline a_mtape a_mcommands m_changes m_thrown_v2 m_errorAt m_failedAt m_answer m_isSaved m_lined_v11 m_taped m_here m_commandMany, kAr g a_ms 130 m_s, kAr g a_mline 40 m_line_v11]) := hD
      refine lv_aload_n hx hb dX7_renderStreet_75 rfl (lv_at hl 0 rfl) ?_
      refine lv_aload_n hx hb dX7_renderStreet_76 rfl (lv_at hl 0 rfl) ?_
      refine lv_iload_n hx hb dX7_renderStreet_77 rfl (lv_at hl 1 rfl) ?_
      refine lv_iconst (v := 4) hx hb dX7_renderStreet_78 (by decide) ?_
      refine gCi0 (gRunV (As := [.int x1, .int 4]) (rest := [.ref (a_mo 0)]) ⟨hx, hb, hml, hown, hts⟩ (ctX7_of l g a_mo a_ms a_mwas a_mtried a_msaved a_mpast a_mfar a_mdrift a_mline a_mtape a_mcommands _ m_changes m_thrown_v2 m_errorAt m_failedAt m_answer m_isSaved m_lined_v11 m_taped m_here m_commandMany m_s x1 4 hw) (cwV 2 hts gX7_renderStreet_X7_of rfl rfl rfl (by decide +kernel) ⟨Nat.le_of_ble_eq_true rfl, Nat.le_of_ble_eq_true rfl⟩) hE (gSub hP [0, 1]) (gDSub hD [0, 1] rfl) 0 11 rfl rfl rfl rfl rfl hl.1 rfl (lv_room (Nat.le_of_ble_eq_true rfl)) dX7_renderStreet_79 ⟨Nat.le_of_ble_eq_true rfl, Nat.le_of_ble_eq_true rfl⟩) hP hD hS hA [0, 1] rfl rfl rfl (fun r12 H locs hw hP hD hS => ?_)
      have hP : va_P g.1 vwCl (List.flatten [kMo g a_mo a_ms a_mwas a_mtried a_msaved a_mpast a_mfar a_mdrift a_mline a_mtape a_mcommands m_changes m_thrown_v2 m_errorAt m_failedAt m_answer m_isSaved m_lined_v11 m_taped m_here m_commandMany, kAr g a_ms 130 m_s, kAr g a_mline 40 m_line_v11]) H := hP
      have hD : va_D A (List.flatten [kMo g a_mo a_ms a_mwas a_mtried a_msaved a_mpast a_mfar a_mdrift a_mline a_mtape a_mcommands m_changes m_thrown_v2 m_errorAt m_failedAt m_answer m_isSaved m_lined_v11 m_taped m_here m_commandMany, kAr g a_ms 130 m_s, kAr g a_mline 40 m_line_v11]) := hD
      refine gCv2 (gRunV (As := [.int r12]) (rest := []) ⟨hx, hb, hml, hown, hts⟩ (ctX7_number_d2 l g a_mo a_ms a_mwas a_mtried a_msaved a_mpast a_mfar a_mdrift a_mline a_mtape a_mcommands _ m_changes m_thrown_v2 m_errorAt m_failedAt m_answer m_isSaved m_lined_v11 m_taped m_here m_commandMany m_line_v11 r12 hw) (cwV 1 hts gX7_renderStreet_X7_number rfl rfl rfl (by decide +kernel) ⟨Nat.le_of_ble_eq_true rfl, Nat.le_of_ble_eq_true rfl⟩) hE (gSub hP [0, 2]) (gDSub hD [0, 2] rfl) 0 11 rfl rfl rfl rfl rfl hl.1 rfl (lv_room (Nat.le_of_ble_eq_true rfl)) dX7_renderStreet_82 ⟨Nat.le_of_ble_eq_true rfl, Nat.le_of_ble_eq_true rfl⟩) hP hD hS hA [0, 2] rfl (fun _ _ => rfl) rfl (fun m_lined_v13 m_line_v13 H locs hw hP hD hS => ?_)
      have hP : va_P g.1 vwCl (List.flatten [kMo g a_mo a_ms a_mwas a_mtried a_msaved a_mpast a_mfar a_mdrift a_mline a_mtape a_mcommands m_changes m_thrown_v2 m_errorAt m_failedAt m_answer m_isSaved m_lined_v13 m_taped m_here m_commandMany, kAr g a_ms 130 m_s, kAr g a_mline 40 m_line_v13]) H := hP
      have hD : va_D A (List.flatten [kMo g a_mo a_ms a_mwas a_mtried a_msaved a_mpast a_mfar a_mdrift a_mline a_mtape a_mcommands m_changes m_thrown_v2 m_errorAt m_failedAt m_answer m_isSaved m_lined_v13 m_taped m_here m_commandMany, kAr g a_ms 130 m_s, kAr g a_mline 40 m_line_v13]) := hD
      refine lv_aload_n hx hb dX7_renderStreet_85 rfl (lv_at hl 0 rfl) ?_
      refine lv_bipush (v := 99) hx hb dX7_renderStreet_86 (by decide) ?_
      refine gCv2 (gRunV (As := [.int 99]) (rest := []) ⟨hx, hb, hml, hown, hts⟩ (ctX7_puts l g a_mo a_ms a_mwas a_mtried a_msaved a_mpast a_mfar a_mdrift a_mline a_mtape a_mcommands _ m_changes m_thrown_v2 m_errorAt m_failedAt m_answer m_isSaved m_lined_v13 m_taped m_here m_commandMany m_line_v13 99 hw) (cwV 1 hts gX7_renderStreet_X7_puts rfl rfl rfl (by decide +kernel) ⟨Nat.le_of_ble_eq_true rfl, Nat.le_of_ble_eq_true rfl⟩) hE (gSub hP [0, 2]) (gDSub hD [0, 2] rfl) 0 11 rfl rfl rfl rfl rfl hl.1 rfl (lv_room (Nat.le_of_ble_eq_true rfl)) dX7_renderStreet_88 ⟨Nat.le_of_ble_eq_true rfl, Nat.le_of_ble_eq_true rfl⟩) hP hD hS hA [0, 2] rfl (fun _ _ => rfl) rfl (fun m_lined_v14 m_line_v14 H locs hw hP hD hS => ?_)
      have hP : va_P g.1 vwCl (List.flatten [kMo g a_mo a_ms a_mwas a_mtried a_msaved a_mpast a_mfar a_mdrift a_mline a_mtape a_mcommands m_changes m_thrown_v2 m_errorAt m_failedAt m_answer m_isSaved m_lined_v14 m_taped m_here m_commandMany, kAr g a_ms 130 m_s, kAr g a_mline 40 m_line_v14]) H := hP
      have hD : va_D A (List.flatten [kMo g a_mo a_ms a_mwas a_mtried a_msaved a_mpast a_mfar a_mdrift a_mline a_mtape a_mcommands m_changes m_thrown_v2 m_errorAt m_failedAt m_answer m_isSaved m_lined_v14 m_taped m_here m_commandMany, kAr g a_ms 130 m_s, kAr g a_mline 40 m_line_v14]) := hD
      refine lv_aload_n hx hb dX7_renderStreet_91 rfl (lv_at hl 0 rfl) ?_
      refine lv_bipush (v := 109) hx hb dX7_renderStreet_92 (by decide) ?_
      refine gCv2 (gRunV (As := [.int 109]) (rest := []) ⟨hx, hb, hml, hown, hts⟩ (ctX7_puts l g a_mo a_ms a_mwas a_mtried a_msaved a_mpast a_mfar a_mdrift a_mline a_mtape a_mcommands _ m_changes m_thrown_v2 m_errorAt m_failedAt m_answer m_isSaved m_lined_v14 m_taped m_here m_commandMany m_line_v14 109 hw) (cwV 1 hts gX7_renderStreet_X7_puts rfl rfl rfl (by decide +kernel) ⟨Nat.le_of_ble_eq_true rfl, Nat.le_of_ble_eq_true rfl⟩) hE (gSub hP [0, 2]) (gDSub hD [0, 2] rfl) 0 11 rfl rfl rfl rfl rfl hl.1 rfl (lv_room (Nat.le_of_ble_eq_true rfl)) dX7_renderStreet_94 ⟨Nat.le_of_ble_eq_true rfl, Nat.le_of_ble_eq_true rfl⟩) hP hD hS hA [0, 2] rfl (fun _ _ => rfl) rfl (fun m_lined_v15 m_line_v15 H locs hw hP hD hS => ?_)
      have hP : va_P g.1 vwCl (List.flatten [kMo g a_mo a_ms a_mwas a_mtried a_msaved a_mpast a_mfar a_mdrift a_mline a_mtape a_mcommands m_changes m_thrown_v2 m_errorAt m_failedAt m_answer m_isSaved m_lined_v15 m_taped m_here m_commandMany, kAr g a_ms 130 m_s, kAr g a_mline 40 m_line_v15]) H := hP
      have hD : va_D A (List.flatten [kMo g a_mo a_ms a_mwas a_mtried a_msaved a_mpast a_mfar a_mdrift a_mline a_mtape a_mcommands m_changes m_thrown_v2 m_errorAt m_failedAt m_answer m_isSaved m_lined_v15 m_taped m_here m_commandMany, kAr g a_ms 130 m_s, kAr g a_mline 40 m_line_v15]) := hD
      refine lv_aload_n hx hb dX7_renderStreet_97 rfl (lv_at hl 0 rfl) ?_
      refine lv_iload_n hx hb dX7_renderStreet_98 rfl (lv_at hl 1 rfl) ?_
      refine gCi0 (gRunV (As := [.int x1]) (rest := []) ⟨hx, hb, hml, hown, hts⟩ (ctX7_salted l g a_mo a_ms a_mwas a_mtried a_msaved a_mpast a_mfar a_mdrift a_mline a_mtape a_mcommands _ m_changes m_thrown_v2 m_errorAt m_failedAt m_answer m_isSaved m_lined_v15 m_taped m_here m_commandMany m_s x1 hw) (cwV 1 hts gX7_renderStreet_X7_salted rfl rfl rfl (by decide +kernel) ⟨Nat.le_of_ble_eq_true rfl, Nat.le_of_ble_eq_true rfl⟩) hE (gSub hP [0, 1]) (gDSub hD [0, 1] rfl) 0 11 rfl rfl rfl rfl rfl hl.1 rfl (lv_room (Nat.le_of_ble_eq_true rfl)) dX7_renderStreet_99 ⟨Nat.le_of_ble_eq_true rfl, Nat.le_of_ble_eq_true rfl⟩) hP hD hS hA [0, 1] rfl rfl rfl (fun r16 H locs hw hP hD hS => ?_)
      have hP : va_P g.1 vwCl (List.flatten [kMo g a_mo a_ms a_mwas a_mtried a_msaved a_mpast a_mfar a_mdrift a_mline a_mtape a_mcommands m_changes m_thrown_v2 m_errorAt m_failedAt m_answer m_isSaved m_lined_v15 m_taped m_here m_commandMany, kAr g a_ms 130 m_s, kAr g a_mline 40 m_line_v15]) H := hP
      have hD : va_D A (List.flatten [kMo g a_mo a_ms a_mwas a_mtried a_msaved a_mpast a_mfar a_mdrift a_mline a_mtape a_mcommands m_changes m_thrown_v2 m_errorAt m_failedAt m_answer m_isSaved m_lined_v15 m_taped m_here m_commandMany, kAr g a_ms 130 m_s, kAr g a_mline 40 m_line_v15]) := hD
      refine lv_if_eq (tgt := 111) hx hb dX7_renderStreet_102 (by decide) (fun c_102 => ?_) (fun c_102 => ?_)
      · have hw := hw.1 c_102
        refine lv_aload_n hx hb dX7_renderStreet_111 rfl (lv_at hl 0 rfl) ?_
        refine va_get (D := g.1) (ci := 11) (v := .int m_lined_v15) (C := RX7) (T := TX7) (N := 20) hx hb hts inX7_renderStreet_X7 hown hE.1 hP 0 rfl rfl 14 (by decide) (gW hts 1 (.fieldLink RX7 180 "SnowDispatcherModel" "lined" "I") rfl) (fun _ h9 => h9) rfl dX7_renderStreet_112 ?_
        subst hQ
        exact W.iret hx hb hr (gRi3 (c1 := m_thrown_v2) (c2 := m_lined_v15) (c3 := m_line_v15) (wf := _) hA0 hsz hw hP hD hS) hS.2.2 dX7_renderStreet_115
      · have hw := hw.2 c_102
        refine lv_aload_n hx hb dX7_renderStreet_105 rfl (lv_at hl 0 rfl) ?_
        refine lv_bipush (v := 42) hx hb dX7_renderStreet_106 (by decide) ?_
        refine gCv2 (gRunV (As := [.int 42]) (rest := []) ⟨hx, hb, hml, hown, hts⟩ (ctX7_puts l g a_mo a_ms a_mwas a_mtried a_msaved a_mpast a_mfar a_mdrift a_mline a_mtape a_mcommands _ m_changes m_thrown_v2 m_errorAt m_failedAt m_answer m_isSaved m_lined_v15 m_taped m_here m_commandMany m_line_v15 42 hw) (cwV 1 hts gX7_renderStreet_X7_puts rfl rfl rfl (by decide +kernel) ⟨Nat.le_of_ble_eq_true rfl, Nat.le_of_ble_eq_true rfl⟩) hE (gSub hP [0, 2]) (gDSub hD [0, 2] rfl) 0 11 rfl rfl rfl rfl rfl hl.1 rfl (lv_room (Nat.le_of_ble_eq_true rfl)) dX7_renderStreet_108 ⟨Nat.le_of_ble_eq_true rfl, Nat.le_of_ble_eq_true rfl⟩) hP hD hS hA [0, 2] rfl (fun _ _ => rfl) rfl (fun m_lined_v17 m_line_v17 H locs hw hP hD hS => ?_)
        have hP : va_P g.1 vwCl (List.flatten [kMo g a_mo a_ms a_mwas a_mtried a_msaved a_mpast a_mfar a_mdrift a_mline a_mtape a_mcommands m_changes m_thrown_v2 m_errorAt m_failedAt m_answer m_isSaved m_lined_v17 m_taped m_here m_commandMany, kAr g a_ms 130 m_s, kAr g a_mline 40 m_line_v17]) H := hP
        have hD : va_D A (List.flatten [kMo g a_mo a_ms a_mwas a_mtried a_msaved a_mpast a_mfar a_mdrift a_mline a_mtape a_mcommands m_changes m_thrown_v2 m_errorAt m_failedAt m_answer m_isSaved m_lined_v17 m_taped m_here m_commandMany, kAr g a_ms 130 m_s, kAr g a_mline 40 m_line_v17]) := hD
        refine lv_aload_n hx hb dX7_renderStreet_111 rfl (lv_at hl 0 rfl) ?_
        refine va_get (D := g.1) (ci := 11) (v := .int m_lined_v17) (C := RX7) (T := TX7) (N := 20) hx hb hts inX7_renderStreet_X7 hown hE.1 hP 0 rfl rfl 14 (by decide) (gW hts 1 (.fieldLink RX7 180 "SnowDispatcherModel" "lined" "I") rfl) (fun _ h9 => h9) rfl dX7_renderStreet_112 ?_
        subst hQ
        exact W.iret hx hb hr (gRi3 (c1 := m_thrown_v2) (c2 := m_lined_v17) (c3 := m_line_v17) (wf := _) hA0 hsz hw hP hD hS) hS.2.2 dX7_renderStreet_115
    · have hw := hw.2 c_18
      refine lv_iconst (v := 0) hx hb dX7_renderStreet_21 (by decide) ?_
      subst hQ
      exact W.iret hx hb hr (gRi3 (c1 := m_thrown_v2) (c2 := m_lined_14) (c3 := m_line_14) (wf := _) hA0 hsz hw hP hD hS) hS.2.2 dX7_renderStreet_22
  refine lv_aload_n hx hb dX7_renderStreet_0 rfl (lv_at hl 0 rfl) ?_
  refine lv_aload_n hx hb dX7_renderStreet_1 rfl (lv_at hl 0 rfl) ?_
  refine lv_iload_n hx hb dX7_renderStreet_2 rfl (lv_at hl 1 rfl) ?_
  refine gCi0 (gRunV (As := [.int x1]) (rest := [.ref (a_mo 0)]) ⟨hx, hb, hml, hown, hts⟩ (ctX7_isStreet l g a_mo a_ms a_mwas a_mtried a_msaved a_mpast a_mfar a_mdrift a_mline a_mtape a_mcommands _ m_changes m_thrown m_errorAt m_failedAt m_answer m_isSaved m_lined m_taped m_here m_commandMany m_s x1 hw) (cwV 1 hts gX7_renderStreet_X7_isStreet rfl rfl rfl (by decide +kernel) ⟨Nat.le_of_ble_eq_true rfl, Nat.le_of_ble_eq_true rfl⟩) hE (gSub hP [0, 1]) (gDSub hD [0, 1] rfl) 0 11 rfl rfl rfl rfl rfl hl.1 rfl (lv_room (Nat.le_of_ble_eq_true rfl)) dX7_renderStreet_3 ⟨Nat.le_of_ble_eq_true rfl, Nat.le_of_ble_eq_true rfl⟩) hP hD hS hA [0, 1] rfl rfl rfl (fun r1 H locs hw hP hD hS => ?_)
  have hP : va_P g.1 vwCl (List.flatten [kMo g a_mo a_ms a_mwas a_mtried a_msaved a_mpast a_mfar a_mdrift a_mline a_mtape a_mcommands m_changes m_thrown m_errorAt m_failedAt m_answer m_isSaved m_lined m_taped m_here m_commandMany, kAr g a_ms 130 m_s, kAr g a_mline 40 m_line]) H := hP
  have hD : va_D A (List.flatten [kMo g a_mo a_ms a_mwas a_mtried a_msaved a_mpast a_mfar a_mdrift a_mline a_mtape a_mcommands m_changes m_thrown m_errorAt m_failedAt m_answer m_isSaved m_lined m_taped m_here m_commandMany, kAr g a_ms 130 m_s, kAr g a_mline 40 m_line]) := hD
  refine lv_if_ne (tgt := 13) hx hb dX7_renderStreet_6 (by decide) (fun c_6 => ?_) (fun c_6 => ?_)
  · have hw := hw.1 c_6
    refine lv_iconst (v := 0) hx hb dX7_renderStreet_13 (by decide) ?_
    exact J14 0 m_thrown m_lined m_line _ _ _ hw hP hD hS (lv_sub hl [0, 1] rfl)
  · have hw := hw.2 c_6
    refine lv_iconst (v := 1) hx hb dX7_renderStreet_9 (by decide) ?_
    refine lv_goto (tgt := 14) hx hb dX7_renderStreet_10 (by decide) ?_
    exact J14 1 m_thrown m_lined m_line _ _ _ hw hP hD hS (lv_sub hl [0, 1] rfl)
abbrev rmX7_renderQueue : Room := { frames := 5, cells := 0, slots := 0, locals := 188 }
set_option maxRecDepth 20000 in
theorem inX7_renderQueue_X7 : ∀ w ∈ wsX70, w ∈ wsX7_renderQueue := by decide +kernel
set_option maxHeartbeats 4000000 in
set_option maxRecDepth 100000 in
theorem ctX7_renderQueue (l : Launch) (g : GG) (a_mo : Nat → Nat) (a_ms : Nat → Nat) (a_mwas : Nat → Nat) (a_mtried : Nat → Nat) (a_msaved : Nat → Nat) (a_mpast : Nat → Nat) (a_mfar : Nat → Nat) (a_mdrift : Nat → Nat) (a_mline : Nat → Nat) (a_mtape : Nat → Nat) (a_mcommands : Nat → Nat) (sz : Nat) (m_changes : Int32) (m_thrown : Int32) (m_errorAt : Int32) (m_failedAt : Int32) (m_answer : Int32) (m_isSaved : Int32) (m_lined : Int32) (m_taped : Int32) (m_here : Int32) (m_commandMany : Int32) (m_s : Nat → Int32) (m_line : Nat → Int32) (x1 : Int32) {post : Int32 → Int32 → Int32 → (Nat → Int32) → Prop} (hw : wpX7_renderQueue x1 m_thrown m_lined m_s m_line post) :
    Met l yX7_renderQueue wsX7_renderQueue rmX7_renderQueue (gPc g sz (List.flatten [kMo g a_mo a_ms a_mwas a_mtried a_msaved a_mpast a_mfar a_mdrift a_mline a_mtape a_mcommands m_changes m_thrown m_errorAt m_failedAt m_answer m_isSaved m_lined m_taped m_here m_commandMany, kAr g a_ms 130 m_s, kAr g a_mline 40 m_line]) [.ref (a_mo 0), .int x1]) (gQi3 post (fun u1 u2 u3 => gB g (List.flatten [kMo g a_mo a_ms a_mwas a_mtried a_msaved a_mpast a_mfar a_mdrift a_mline a_mtape a_mcommands m_changes m_thrown m_errorAt m_failedAt m_answer m_isSaved m_lined m_taped m_here m_commandMany, kAr g a_ms 130 m_s, kAr g a_mline 40 m_line]) sz (List.flatten [kMo g a_mo a_ms a_mwas a_mtried a_msaved a_mpast a_mfar a_mdrift a_mline a_mtape a_mcommands m_changes u1 m_errorAt m_failedAt m_answer m_isSaved u2 m_taped m_here m_commandMany, kAr g a_ms 130 m_s, kAr g a_mline 40 u3])) (va_A (List.flatten [kMo g a_mo a_ms a_mwas a_mtried a_msaved a_mpast a_mfar a_mdrift a_mline a_mtape a_mcommands m_changes m_thrown m_errorAt m_failedAt m_answer m_isSaved m_lined m_taped m_here m_commandMany, kAr g a_ms 130 m_s, kAr g a_mline 40 m_line]) sz)) 0 0 (va_A (List.flatten [kMo g a_mo a_ms a_mwas a_mtried a_msaved a_mpast a_mfar a_mdrift a_mline a_mtape a_mcommands m_changes m_thrown m_errorAt m_failedAt m_answer m_isSaved m_lined m_taped m_here m_commandMany, kAr g a_ms 130 m_s, kAr g a_mline 40 m_line]) sz) := by
  refine gOf (cc := cX7_renderQueue) (maxL := 3) (ret := (some .int)) (by decide) rfl (Nat.le_of_ble_eq_true rfl) ?_
  intro p e s m below meth c ls Q A hQ hx hb hr hml hts hown hlocks hE hA0 hsz hP hD hA hS hl
  have hl : lv_has ls 3 [(0, .ref (a_mo 0)), (1, .int x1)] := hl
  have L30 : ∀ (n : Nat) (m_thrown_30 : Int32) (x2_30 : Int32) (m_lined_30 : Int32) (m_line_30 : Nat → Int32) (H : Heap) (locs : List Loc) (ls : Array Slot), wpX7_renderQueue_L30 x1 m_s m_thrown_30 post n x2_30 m_lined_30 m_line_30 → va_P g.1 vwCl (List.flatten [kMo g a_mo a_ms a_mwas a_mtried a_msaved a_mpast a_mfar a_mdrift a_mline a_mtape a_mcommands m_changes m_thrown_30 m_errorAt m_failedAt m_answer m_isSaved m_lined_30 m_taped m_here m_commandMany, kAr g a_ms 130 m_s, kAr g a_mline 40 m_line_30]) H → va_D A (List.flatten [kMo g a_mo a_ms a_mwas a_mtried a_msaved a_mpast a_mfar a_mdrift a_mline a_mtape a_mcommands m_changes m_thrown_30 m_errorAt m_failedAt m_answer m_isSaved m_lined_30 m_taped m_here m_commandMany, kAr g a_ms 130 m_s, kAr g a_mline 40 m_line_30]) → va_S A s.heap H locs → lv_has ls 3 [(0, .ref (a_mo 0)), (1, .int x1), (2, .int x2_30)] → W p l e rmX7_renderQueue s m (([.ref (a_mo 0), .int x1] : List Value).toArray) below meth c H locs 0 0 Q (F0 m 30 ls []) := by
    intro n_30
    induction n_30 with
    | zero => intro m_thrown_30 x2_30 m_lined_30 m_line_30 H locs ls hw; exact False.elim hw
    | succ n_30 ih_30 =>
      intro m_thrown_30 x2_30 m_lined_30 m_line_30 H locs ls hw hP hD hS hl
      have J50 : ∀ (x2_50 : Int32) (m_lined_50 : Int32) (m_line_50 : Nat → Int32) (H : Heap) (locs : List Loc) (ls : Array Slot), wpX7_renderQueue_L50 x1 m_thrown_30 m_s (wpX7_renderQueue_L30 x1 m_s m_thrown_30 post n_30) post x2_50 m_lined_50 m_line_50 → va_P g.1 vwCl (List.flatten [kMo g a_mo a_ms a_mwas a_mtried a_msaved a_mpast a_mfar a_mdrift a_mline a_mtape a_mcommands m_changes m_thrown_30 m_errorAt m_failedAt m_answer m_isSaved m_lined_50 m_taped m_here m_commandMany, kAr g a_ms 130 m_s, kAr g a_mline 40 m_line_50]) H → va_D A (List.flatten [kMo g a_mo a_ms a_mwas a_mtried a_msaved a_mpast a_mfar a_mdrift a_mline a_mtape a_mcommands m_changes m_thrown_30 m_errorAt m_failedAt m_answer m_isSaved m_lined_50 m_taped m_here m_commandMany, kAr g a_ms 130 m_s, kAr g a_mline 40 m_line_50]) → va_S A s.heap H locs → lv_has ls 3 [(0, .ref (a_mo 0)), (1, .int x1), (2, .int x2_50)] → W p l e rmX7_renderQueue s m (([.ref (a_mo 0), .int x1] : List Value).toArray) below meth c H locs 0 0 Q (F0 m 50 ls []) := by
        intro x2_50 m_lined_50 m_line_50 H locs ls hw hP hD hS hl
        refine lv_aload_n hx hb dX7_renderQueue_50 rfl (lv_at hl 0 rfl) ?_
        refine lv_aload_n hx hb dX7_renderQueue_51 rfl (lv_at hl 0 rfl) ?_
        refine lv_iload_n hx hb dX7_renderQueue_52 rfl (lv_at hl 1 rfl) ?_
        refine lv_iconst (v := 4) hx hb dX7_renderQueue_53 (by decide) ?_
        refine lv_iload_n hx hb dX7_renderQueue_54 rfl (lv_at hl 2 rfl) ?_
        refine lv_iadd hx hb dX7_renderQueue_55 ?_
        refine gCi0 (gRunV (As := [.int x1, .int (4 + x2_50)]) (rest := [.ref (a_mo 0)]) ⟨hx, hb, hml, hown, hts⟩ (ctX7_ofPlough l g a_mo a_ms a_mwas a_mtried a_msaved a_mpast a_mfar a_mdrift a_mline a_mtape a_mcommands _ m_changes m_thrown_30 m_errorAt m_failedAt m_answer m_isSaved m_lined_50 m_taped m_here m_commandMany m_s x1 (4 + x2_50) hw) (cwV 2 hts gX7_renderQueue_X7_ofPlough rfl rfl rfl (by decide +kernel) ⟨Nat.le_of_ble_eq_true rfl, Nat.le_of_ble_eq_true rfl⟩) hE (gSub hP [0, 1]) (gDSub hD [0, 1] rfl) 0 11 rfl rfl rfl rfl rfl hl.1 rfl (lv_room (Nat.le_of_ble_eq_true rfl)) dX7_renderQueue_56 ⟨Nat.le_of_ble_eq_true rfl, Nat.le_of_ble_eq_true rfl⟩) hP hD hS hA [0, 1] rfl rfl rfl (fun r4 H locs hw hP hD hS => ?_)
        have hP : va_P g.1 vwCl (List.flatten [kMo g a_mo a_ms a_mwas a_mtried a_msaved a_mpast a_mfar a_mdrift a_mline a_mtape a_mcommands m_changes m_thrown_30 m_errorAt m_failedAt m_answer m_isSaved m_lined_50 m_taped m_here m_commandMany, kAr g a_ms 130 m_s, kAr g a_mline 40 m_line_50]) H := hP
        have hD : va_D A (List.flatten [kMo g a_mo a_ms a_mwas a_mtried a_msaved a_mpast a_mfar a_mdrift a_mline a_mtape a_mcommands m_changes m_thrown_30 m_errorAt m_failedAt m_answer m_isSaved m_lined_50 m_taped m_here m_commandMany, kAr g a_ms 130 m_s, kAr g a_mline 40 m_line_50]) := hD
        refine gCv2 (gRunV (As := [.int r4]) (rest := []) ⟨hx, hb, hml, hown, hts⟩ (ctX7_number_d2 l g a_mo a_ms a_mwas a_mtried a_msaved a_mpast a_mfar a_mdrift a_mline a_mtape a_mcommands _ m_changes m_thrown_30 m_errorAt m_failedAt m_answer m_isSaved m_lined_50 m_taped m_here m_commandMany m_line_50 r4 hw) (cwV 1 hts gX7_renderQueue_X7_number rfl rfl rfl (by decide +kernel) ⟨Nat.le_of_ble_eq_true rfl, Nat.le_of_ble_eq_true rfl⟩) hE (gSub hP [0, 2]) (gDSub hD [0, 2] rfl) 0 11 rfl rfl rfl rfl rfl hl.1 rfl (lv_room (Nat.le_of_ble_eq_true rfl)) dX7_renderQueue_59 ⟨Nat.le_of_ble_eq_true rfl, Nat.le_of_ble_eq_true rfl⟩) hP hD hS hA [0, 2] rfl (fun _ _ => rfl) rfl (fun m_lined_v5 m_line_v5 H locs hw hP hD hS => ?_)
        have hP : va_P g.1 vwCl (List.flatten [kMo g a_mo a_ms a_mwas a_mtried a_msaved a_mpast a_mfar a_mdrift a_mline a_mtape a_mcommands m_changes m_thrown_30 m_errorAt m_failedAt m_answer m_isSaved m_lined_v5 m_taped m_here m_commandMany, kAr g a_ms 130 m_s, kAr g a_mline 40 m_line_v5]) H := hP
        have hD : va_D A (List.flatten [kMo g a_mo a_ms a_mwas a_mtried a_msaved a_mpast a_mfar a_mdrift a_mline a_mtape a_mcommands m_changes m_thrown_30 m_errorAt m_failedAt m_answer m_isSaved m_lined_v5 m_taped m_here m_commandMany, kAr g a_ms 130 m_s, kAr g a_mline 40 m_line_v5]) := hD
        refine lv_iinc (v := (x2_50 + 1)) (lv' := [(2, .int (x2_50 + 1)), (0, .ref (a_mo 0)), (1, .int x1)]) hx hb dX7_renderQueue_62 hl (k := 2) rfl rfl (by decide) rfl (fun ls hl => ?_)
        refine lv_goto (tgt := 30) hx hb dX7_renderQueue_65 (by decide) ?_
        exact ih_30 m_thrown_30 (x2_50 + 1) m_lined_v5 m_line_v5 _ _ _ hw hP hD hS (lv_sub hl [1, 2, 0] rfl)
      refine lv_iload_n hx hb dX7_renderQueue_30 rfl (lv_at hl 2 rfl) ?_
      refine lv_aload_n hx hb dX7_renderQueue_31 rfl (lv_at hl 0 rfl) ?_
      refine lv_iload_n hx hb dX7_renderQueue_32 rfl (lv_at hl 1 rfl) ?_
      refine lv_iconst (v := 3) hx hb dX7_renderQueue_33 (by decide) ?_
      refine gCi0 (gRunV (As := [.int x1, .int 3]) (rest := [.int x2_30]) ⟨hx, hb, hml, hown, hts⟩ (ctX7_ofPlough l g a_mo a_ms a_mwas a_mtried a_msaved a_mpast a_mfar a_mdrift a_mline a_mtape a_mcommands _ m_changes m_thrown_30 m_errorAt m_failedAt m_answer m_isSaved m_lined_30 m_taped m_here m_commandMany m_s x1 3 hw) (cwV 2 hts gX7_renderQueue_X7_ofPlough rfl rfl rfl (by decide +kernel) ⟨Nat.le_of_ble_eq_true rfl, Nat.le_of_ble_eq_true rfl⟩) hE (gSub hP [0, 1]) (gDSub hD [0, 1] rfl) 0 11 rfl rfl rfl rfl rfl hl.1 rfl (lv_room (Nat.le_of_ble_eq_true rfl)) dX7_renderQueue_34 ⟨Nat.le_of_ble_eq_true rfl, Nat.le_of_ble_eq_true rfl⟩) hP hD hS hA [0, 1] rfl rfl rfl (fun r3 H locs hw hP hD hS => ?_)
      have hP : va_P g.1 vwCl (List.flatten [kMo g a_mo a_ms a_mwas a_mtried a_msaved a_mpast a_mfar a_mdrift a_mline a_mtape a_mcommands m_changes m_thrown_30 m_errorAt m_failedAt m_answer m_isSaved m_lined_30 m_taped m_here m_commandMany, kAr g a_ms 130 m_s, kAr g a_mline 40 m_line_30]) H := hP
      have hD : va_D A (List.flatten [kMo g a_mo a_ms a_mwas a_mtried a_msaved a_mpast a_mfar a_mdrift a_mline a_mtape a_mcommands m_changes m_thrown_30 m_errorAt m_failedAt m_answer m_isSaved m_lined_30 m_taped m_here m_commandMany, kAr g a_ms 130 m_s, kAr g a_mline 40 m_line_30]) := hD
      refine lv_icmp_ge (tgt := 68) hx hb dX7_renderQueue_37 (by decide) (fun c_37 => ?_) (fun c_37 => ?_)
      · have hw := hw.1 c_37
        refine lv_aload_n hx hb dX7_renderQueue_68 rfl (lv_at hl 0 rfl) ?_
        refine va_get (D := g.1) (ci := 11) (v := .int m_lined_30) (C := RX7) (T := TX7) (N := 20) hx hb hts inX7_renderQueue_X7 hown hE.1 hP 0 rfl rfl 14 (by decide) (gW hts 1 (.fieldLink RX7 180 "SnowDispatcherModel" "lined" "I") rfl) (fun _ h9 => h9) rfl dX7_renderQueue_69 ?_
        subst hQ
        exact W.iret hx hb hr (gRi3 (c1 := m_thrown_30) (c2 := m_lined_30) (c3 := m_line_30) (wf := _) hA0 hsz hw hP hD hS) hS.2.2 dX7_renderQueue_72
      · have hw := hw.2 c_37
        refine lv_iload_n hx hb dX7_renderQueue_40 rfl (lv_at hl 2 rfl) ?_
        refine lv_if_le (tgt := 50) hx hb dX7_renderQueue_41 (by decide) (fun c_41 => ?_) (fun c_41 => ?_)
        · have hw := hw.1 c_41
          exact J50 x2_30 m_lined_30 m_line_30 _ _ _ hw hP hD hS (lv_sub hl [0, 1, 2] rfl)
        · have hw := hw.2 c_41
          refine lv_aload_n hx hb dX7_renderQueue_44 rfl (lv_at hl 0 rfl) ?_
          refine lv_bipush (v := 44) hx hb dX7_renderQueue_45 (by decide) ?_
          refine gCv2 (gRunV (As := [.int 44]) (rest := []) ⟨hx, hb, hml, hown, hts⟩ (ctX7_puts l g a_mo a_ms a_mwas a_mtried a_msaved a_mpast a_mfar a_mdrift a_mline a_mtape a_mcommands _ m_changes m_thrown_30 m_errorAt m_failedAt m_answer m_isSaved m_lined_30 m_taped m_here m_commandMany m_line_30 44 hw) (cwV 1 hts gX7_renderQueue_X7_puts rfl rfl rfl (by decide +kernel) ⟨Nat.le_of_ble_eq_true rfl, Nat.le_of_ble_eq_true rfl⟩) hE (gSub hP [0, 2]) (gDSub hD [0, 2] rfl) 0 11 rfl rfl rfl rfl rfl hl.1 rfl (lv_room (Nat.le_of_ble_eq_true rfl)) dX7_renderQueue_47 ⟨Nat.le_of_ble_eq_true rfl, Nat.le_of_ble_eq_true rfl⟩) hP hD hS hA [0, 2] rfl (fun _ _ => rfl) rfl (fun m_lined_v6 m_line_v6 H locs hw hP hD hS => ?_)
          have hP : va_P g.1 vwCl (List.flatten [kMo g a_mo a_ms a_mwas a_mtried a_msaved a_mpast a_mfar a_mdrift a_mline a_mtape a_mcommands m_changes m_thrown_30 m_errorAt m_failedAt m_answer m_isSaved m_lined_v6 m_taped m_here m_commandMany, kAr g a_ms 130 m_s, kAr g a_mline 40 m_line_v6]) H := hP
          have hD : va_D A (List.flatten [kMo g a_mo a_ms a_mwas a_mtried a_msaved a_mpast a_mfar a_mdrift a_mline a_mtape a_mcommands m_changes m_thrown_30 m_errorAt m_failedAt m_answer m_isSaved m_lined_v6 m_taped m_here m_commandMany, kAr g a_ms 130 m_s, kAr g a_mline 40 m_line_v6]) := hD
          exact J50 x2_30 m_lined_v6 m_line_v6 _ _ _ hw hP hD hS (lv_sub hl [0, 1, 2] rfl)
  have J14 : ∀ (z1_14 : Int32) (m_thrown_14 : Int32) (m_lined_14 : Int32) (m_line_14 : Nat → Int32) (H : Heap) (locs : List Loc) (ls : Array Slot), wpX7_renderQueue_L14 x1 m_s post z1_14 m_thrown_14 m_lined_14 m_line_14 → va_P g.1 vwCl (List.flatten [kMo g a_mo a_ms a_mwas a_mtried a_msaved a_mpast a_mfar a_mdrift a_mline a_mtape a_mcommands m_changes m_thrown_14 m_errorAt m_failedAt m_answer m_isSaved m_lined_14 m_taped m_here m_commandMany, kAr g a_ms 130 m_s, kAr g a_mline 40 m_line_14]) H → va_D A (List.flatten [kMo g a_mo a_ms a_mwas a_mtried a_msaved a_mpast a_mfar a_mdrift a_mline a_mtape a_mcommands m_changes m_thrown_14 m_errorAt m_failedAt m_answer m_isSaved m_lined_14 m_taped m_here m_commandMany, kAr g a_ms 130 m_s, kAr g a_mline 40 m_line_14]) → va_S A s.heap H locs → lv_has ls 3 [(0, .ref (a_mo 0)), (1, .int x1)] → W p l e rmX7_renderQueue s m (([.ref (a_mo 0), .int x1] : List Value).toArray) below meth c H locs 0 0 Q (F0 m 14 ls [.int z1_14, .ref (a_mo 0)]) := by
    intro z1_14 m_thrown_14 m_lined_14 m_line_14 H locs ls hw hP hD hS hl
    refine lv_iconst (v := 1) hx hb dX7_renderQueue_14 (by decide) ?_
    refine gCi1 (gRunV (As := [.int z1_14, .int 1]) (rest := []) ⟨hx, hb, hml, hown, hts⟩ (ctX7_isThrown l g a_mo a_ms a_mwas a_mtried a_msaved a_mpast a_mfar a_mdrift a_mline a_mtape a_mcommands _ m_changes m_thrown_14 m_errorAt m_failedAt m_answer m_isSaved m_lined_14 m_taped m_here m_commandMany z1_14 1 hw) (cwV 2 hts gX7_renderQueue_X7_isThrown rfl rfl rfl (by decide +kernel) ⟨Nat.le_of_ble_eq_true rfl, Nat.le_of_ble_eq_true rfl⟩) hE (gSub hP [0]) (gDSub hD [0] rfl) 0 11 rfl rfl rfl rfl rfl hl.1 rfl (lv_room (Nat.le_of_ble_eq_true rfl)) dX7_renderQueue_15 ⟨Nat.le_of_ble_eq_true rfl, Nat.le_of_ble_eq_true rfl⟩) hP hD hS hA [0] rfl (fun _ => rfl) rfl (fun r2 m_thrown_v2 H locs hw hP hD hS => ?_)
    have hP : va_P g.1 vwCl (List.flatten [kMo g a_mo a_ms a_mwas a_mtried a_msaved a_mpast a_mfar a_mdrift a_mline a_mtape a_mcommands m_changes m_thrown_v2 m_errorAt m_failedAt m_answer m_isSaved m_lined_14 m_taped m_here m_commandMany, kAr g a_ms 130 m_s, kAr g a_mline 40 m_line_14]) H := hP
    have hD : va_D A (List.flatten [kMo g a_mo a_ms a_mwas a_mtried a_msaved a_mpast a_mfar a_mdrift a_mline a_mtape a_mcommands m_changes m_thrown_v2 m_errorAt m_failedAt m_answer m_isSaved m_lined_14 m_taped m_here m_commandMany, kAr g a_ms 130 m_s, kAr g a_mline 40 m_line_14]) := hD
    refine lv_if_eq (tgt := 23) hx hb dX7_renderQueue_18 (by decide) (fun c_18 => ?_) (fun c_18 => ?_)
    · have hw := hw.1 c_18
      refine lv_aload_n hx hb dX7_renderQueue_23 rfl (lv_at hl 0 rfl) ?_
      refine lv_iconst (v := 0) hx hb dX7_renderQueue_24 (by decide) ?_
      refine va_put (D := g.1) (ci := 11) (v := .int 0) (ty := .int) (C := RX7) (T := TX7) (N := 20) hx hb hts inX7_renderQueue_X7 tyX7 tyX7_ok nmX7 hown hE.1 hP hD hS 0 rfl rfl 14 (by decide) (gW hts 1 (.fieldLink RX7 180 "SnowDispatcherModel" "lined" "I") rfl) (fun _ h9 => h9) rfl (by decide +kernel) rfl rfl (Nat.le_of_ble_eq_true rfl) dX7_renderQueue_25 (fun H locs hP hD hS => ?_)
      have hP : va_P g.1 vwCl (List.flatten [kMo g a_mo a_ms a_mwas a_mtried a_msaved a_mpast a_mfar a_mdrift a_mline a_mtape a_mcommands m_changes m_thrown_v2 m_errorAt m_failedAt m_answer m_isSaved 0 m_taped m_here m_commandMany, kAr g a_ms 130 m_s, kAr g a_mline 40 m_line_14]) H := hP
      have hD : va_D A (List.flatten [kMo g a_mo a_ms a_mwas a_mtried a_msaved a_mpast a_mfar a_mdrift a_mline a_mtape a_mcommands m_changes m_thrown_v2 m_errorAt m_failedAt m_answer m_isSaved 0 m_taped m_here m_commandMany, kAr g a_ms 130 m_s, kAr g a_mline 40 m_line_14]) := hD
      refine lv_iconst (v := 0) hx hb dX7_renderQueue_28 (by decide) ?_
      refine lv_istore_n (lv' := [(2, .int 0), (0, .ref (a_mo 0)), (1, .int x1)]) hx hb dX7_renderQueue_29 rfl hl (by decide) rfl (fun ls hl => ?_)
      obtain ⟨n, hw⟩ := hw
      exact L30 n m_thrown_v2 0 0 m_line_14 _ _ _ hw hP hD hS (lv_sub hl [1, 2, 0] rfl)
    · have hw := hw.2 c_18
      refine lv_iconst (v := 0) hx hb dX7_renderQueue_21 (by decide) ?_
      subst hQ
      exact W.iret hx hb hr (gRi3 (c1 := m_thrown_v2) (c2 := m_lined_14) (c3 := m_line_14) (wf := _) hA0 hsz hw hP hD hS) hS.2.2 dX7_renderQueue_22
  refine lv_aload_n hx hb dX7_renderQueue_0 rfl (lv_at hl 0 rfl) ?_
  refine lv_aload_n hx hb dX7_renderQueue_1 rfl (lv_at hl 0 rfl) ?_
  refine lv_iload_n hx hb dX7_renderQueue_2 rfl (lv_at hl 1 rfl) ?_
  refine gCi0 (gRunV (As := [.int x1]) (rest := [.ref (a_mo 0)]) ⟨hx, hb, hml, hown, hts⟩ (ctX7_isPlough l g a_mo a_ms a_mwas a_mtried a_msaved a_mpast a_mfar a_mdrift a_mline a_mtape a_mcommands _ m_changes m_thrown m_errorAt m_failedAt m_answer m_isSaved m_lined m_taped m_here m_commandMany m_s x1 hw) (cwV 1 hts gX7_renderQueue_X7_isPlough rfl rfl rfl (by decide +kernel) ⟨Nat.le_of_ble_eq_true rfl, Nat.le_of_ble_eq_true rfl⟩) hE (gSub hP [0, 1]) (gDSub hD [0, 1] rfl) 0 11 rfl rfl rfl rfl rfl hl.1 rfl (lv_room (Nat.le_of_ble_eq_true rfl)) dX7_renderQueue_3 ⟨Nat.le_of_ble_eq_true rfl, Nat.le_of_ble_eq_true rfl⟩) hP hD hS hA [0, 1] rfl rfl rfl (fun r1 H locs hw hP hD hS => ?_)
  have hP : va_P g.1 vwCl (List.flatten [kMo g a_mo a_ms a_mwas a_mtried a_msaved a_mpast a_mfar a_mdrift a_mline a_mtape a_mcommands m_changes m_thrown m_errorAt m_failedAt m_answer m_isSaved m_lined m_taped m_here m_commandMany, kAr g a_ms 130 m_s, kAr g a_mline 40 m_line]) H := hP
  have hD : va_D A (List.flatten [kMo g a_mo a_ms a_mwas a_mtried a_msaved a_mpast a_mfar a_mdrift a_mline a_mtape a_mcommands m_changes m_thrown m_errorAt m_failedAt m_answer m_isSaved m_lined m_taped m_here m_commandMany, kAr g a_ms 130 m_s, kAr g a_mline 40 m_line]) := hD
  refine lv_if_ne (tgt := 13) hx hb dX7_renderQueue_6 (by decide) (fun c_6 => ?_) (fun c_6 => ?_)
  · have hw := hw.1 c_6
    refine lv_iconst (v := 0) hx hb dX7_renderQueue_13 (by decide) ?_
    exact J14 0 m_thrown m_lined m_line _ _ _ hw hP hD hS (lv_sub hl [0, 1] rfl)
  · have hw := hw.2 c_6
    refine lv_iconst (v := 1) hx hb dX7_renderQueue_9 (by decide) ?_
    refine lv_goto (tgt := 14) hx hb dX7_renderQueue_10 (by decide) ?_
    exact J14 1 m_thrown m_lined m_line _ _ _ hw hP hD hS (lv_sub hl [0, 1] rfl)
