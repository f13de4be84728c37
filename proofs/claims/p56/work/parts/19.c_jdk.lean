/-! contracts: by program (wip/whole/gen) -/
abbrev rmJ5_ensureCapacityInternal_d00df : Room := { frames := 1, cells := 0, slots := 0, locals := 100 }
set_option maxRecDepth 20000 in
theorem inJ5_ensureCapacityInternal_d00df_J4 : ∀ w ∈ wsJ40, w ∈ wsJ5_ensureCapacityInternal_d00df := by decide +kernel
set_option maxHeartbeats 4000000 in
set_option maxRecDepth 100000 in
theorem ctJ5_ensureCapacityInternal_d00df (l : Launch) (g : GG) (a_sb : Nat → Nat) (sz : Nat) (b_ml : Int32) (b_count : Int32) (b_at : Nat → Nat) (b_cap : Nat) (b_bytes : Nat → Int32) (x1 : Int32) {post : Prop} (hw : wpJ5_ensureCapacityInternal_d00df x1 b_cap post) :
    Met l yJ5_ensureCapacityInternal_d00df wsJ5_ensureCapacityInternal_d00df rmJ5_ensureCapacityInternal_d00df (gPc g sz (List.flatten [kSO g a_sb b_at b_ml b_count, kBa g b_at b_cap b_bytes]) [.ref (a_sb 0), .int x1]) (gQv0 post (gB g (List.flatten [kSO g a_sb b_at b_ml b_count, kBa g b_at b_cap b_bytes]) sz (List.flatten [kSO g a_sb b_at b_ml b_count, kBa g b_at b_cap b_bytes])) (va_A (List.flatten [kSO g a_sb b_at b_ml b_count, kBa g b_at b_cap b_bytes]) sz)) 0 0 (va_A (List.flatten [kSO g a_sb b_at b_ml b_count, kBa g b_at b_cap b_bytes]) sz) := by
  refine gOf (cc := cJ5_ensureCapacityInternal_d00df) (maxL := 3) (ret := none) (by decide) rfl (Nat.le_of_ble_eq_true rfl) ?_
  intro p e s m below meth c ls Q A hQ hx hb hr hml hts hown hlocks hE hA0 hsz hP hD hA hS hl
  have hl : lv_has ls 3 [(0, .ref (a_sb 0)), (1, .int x1)] := hl
  refine lv_aload_n hx hb dJ5_ensureCapacityInternal_d00df_0 rfl (lv_at hl 0 rfl) ?_
  refine va_get (D := g.1) (ci := 1) (v := .ref (b_at 0)) (C := RJ4) (T := TJ4) (N := 4) hx hb hts inJ5_ensureCapacityInternal_d00df_J4 hown hE.1 hP 0 rfl rfl 0 (by decide) (gW hts 1 (.fieldLink RJ5 15 "java/lang/AbstractStringBuilder" "value" "[B") rfl) (fun _ h9 => h9) rfl dJ5_ensureCapacityInternal_d00df_1 ?_
  refine va_alen hx hb hE.1 hP 1 3 rfl rfl rfl dJ5_ensureCapacityInternal_d00df_4 ?_
  refine lv_aload_n hx hb dJ5_ensureCapacityInternal_d00df_5 rfl (lv_at hl 0 rfl) ?_
  refine va_get (D := g.1) (ci := 1) (v := .int 0) (C := RJ4) (T := TJ4) (N := 4) hx hb hts inJ5_ensureCapacityInternal_d00df_J4 hown hE.1 hP 0 rfl rfl 1 (by decide) (gW hts 2 (.fieldLink RJ5 22 "java/lang/AbstractStringBuilder" "coder" "B") rfl) (fun _ h9 => h9) rfl dJ5_ensureCapacityInternal_d00df_6 ?_
  refine lv_ishr hx hb dJ5_ensureCapacityInternal_d00df_9 ?_
  refine lv_istore_n (lv' := [(2, .int ((nI b_cap) >>> ((0 : Int32) &&& 31))), (0, .ref (a_sb 0)), (1, .int x1)]) hx hb dJ5_ensureCapacityInternal_d00df_10 rfl hl (by decide) rfl (fun ls hl => ?_)
  refine lv_iload_n hx hb dJ5_ensureCapacityInternal_d00df_11 rfl (lv_at hl 2 rfl) ?_
  refine lv_iload_n hx hb dJ5_ensureCapacityInternal_d00df_12 rfl (lv_at hl 0 rfl) ?_
  refine lv_isub hx hb dJ5_ensureCapacityInternal_d00df_13 ?_
  refine lv_if_le (tgt := 38) hx hb dJ5_ensureCapacityInternal_d00df_14 (by decide) (fun c_14 => ?_) (fun c_14 => (hw.2 c_14).elim)
  have hw := hw.1 c_14
  subst hQ
  exact W.vret hx hb hr (gRv0 (wf := _) hA0 hsz hw hP hD hS) hS.2.2 dJ5_ensureCapacityInternal_d00df_38
abbrev rmJ5_isLatin1_aae02 : Room := { frames := 1, cells := 0, slots := 0, locals := 100 }
set_option maxRecDepth 20000 in
theorem inJ5_isLatin1_aae02_J4 : ∀ w ∈ wsJ40, w ∈ wsJ5_isLatin1_aae02 := by decide +kernel
set_option maxHeartbeats 4000000 in
set_option maxRecDepth 100000 in
theorem ctJ5_isLatin1_aae02 (l : Launch) (g : GG) (t : GT) (a_sb : Nat → Nat) (b_at : Nat → Nat) (sz : Nat) (b_ml : Int32) (b_count : Int32) {post : Int32 → Prop} (hw : wpJ5_isLatin1_aae02 post) :
    Met l yJ5_isLatin1_aae02 wsJ5_isLatin1_aae02 rmJ5_isLatin1_aae02 (gPX g t sz (List.flatten [kSO g a_sb b_at b_ml b_count]) [.ref (a_sb 0)]) (gQi0 post (gB g (List.flatten [kSO g a_sb b_at b_ml b_count]) sz (List.flatten [kSO g a_sb b_at b_ml b_count])) (va_A (List.flatten [kSO g a_sb b_at b_ml b_count]) sz)) 0 0 (va_A (List.flatten [kSO g a_sb b_at b_ml b_count]) sz) := by
  refine gOfX (cc := cJ5_isLatin1_aae02) (maxL := 1) (ret := (some .boolean)) (by decide) rfl (Nat.le_of_ble_eq_true rfl) ?_
  intro p e s m below meth c ls Q A hQ hx hb hr hml hts hown hlocks hE hA0 hsz hP hD hA hS hl hX
  have hl : lv_has ls 1 [(0, .ref (a_sb 0))] := hl
  refine va_gets hx hb (hX.1.2.2.2.1) hS hown (gW hts 1 (.fieldLink RJ5 18 "java/lang/String" "COMPACT_STRINGS" "Z") rfl) (fun _ h9 => h9) dJ5_isLatin1_aae02_0 ?_
  refine lv_if_eq (tgt := 17) hx hb dJ5_isLatin1_aae02_3 (by decide) (fun c_3 => absurd c_3 (by decide)) (fun c_3 => ?_)
  refine lv_aload_n hx hb dJ5_isLatin1_aae02_6 rfl (lv_at hl 0 rfl) ?_
  refine va_get (D := g.1) (ci := 1) (v := .int 0) (C := RJ4) (T := TJ4) (N := 4) hx hb hts inJ5_isLatin1_aae02_J4 hown hE.1 hP 0 rfl rfl 1 (by decide) (gW hts 2 (.fieldLink RJ5 22 "java/lang/AbstractStringBuilder" "coder" "B") rfl) (fun _ h9 => h9) rfl dJ5_isLatin1_aae02_7 ?_
  refine lv_if_ne (tgt := 17) hx hb dJ5_isLatin1_aae02_10 (by decide) (fun c_10 => absurd c_10 (by decide)) (fun c_10 => ?_)
  refine lv_iconst (v := 1) hx hb dJ5_isLatin1_aae02_13 (by decide) ?_
  refine lv_goto (tgt := 18) hx hb dJ5_isLatin1_aae02_14 (by decide) ?_
  subst hQ
  exact W.zret (ty := .boolean) hx hb hr (by decide) (gRi0 (wf := _) hA0 hsz hw hP hD hS) hS.2.2 dJ5_isLatin1_aae02_18
abbrev rmJ1_canEncode_fc78d : Room := { frames := 1, cells := 0, slots := 0, locals := 100 }
set_option maxHeartbeats 4000000 in
set_option maxRecDepth 100000 in
theorem ctJ1_canEncode_fc78d (l : Launch) (g : GG) (sz : Nat) (x0 : Int32) {post : Int32 → Prop} (hw : wpJ1_canEncode_fc78d x0 post) :
    Met l yJ1_canEncode_fc78d wsJ1_canEncode_fc78d rmJ1_canEncode_fc78d (gPc g sz (List.flatten []) [.int x0]) (gQi0 post (gB g (List.flatten []) sz (List.flatten [])) (va_A (List.flatten []) sz)) 0 0 (va_A (List.flatten []) sz) := by
  refine gOf (cc := cJ1_canEncode_fc78d) (maxL := 1) (ret := (some .boolean)) (by decide) rfl (Nat.le_of_ble_eq_true rfl) ?_
  intro p e s m below meth c ls Q A hQ hx hb hr hml hts hown hlocks hE hA0 hsz hP hD hA hS hl
  have hl : lv_has ls 1 [(0, .int x0)] := hl
  refine lv_iload_n hx hb dJ1_canEncode_fc78d_0 rfl (lv_at hl 0 rfl) ?_
  refine lv_sipush (v := 255) hx hb dJ1_canEncode_fc78d_1 (by decide) ?_
  refine lv_icmp_gt (tgt := 11) hx hb dJ1_canEncode_fc78d_4 (by decide) (fun c_4 => ?_) (fun c_4 => ?_)
  · have hw := hw.1 c_4
    refine lv_iconst (v := 0) hx hb dJ1_canEncode_fc78d_11 (by decide) ?_
    subst hQ
    exact W.zret (ty := .boolean) hx hb hr (by decide) (gRi0 (wf := _) hA0 hsz hw hP hD hS) hS.2.2 dJ1_canEncode_fc78d_12
  · have hw := hw.2 c_4
    refine lv_iconst (v := 1) hx hb dJ1_canEncode_fc78d_7 (by decide) ?_
    refine lv_goto (tgt := 12) hx hb dJ1_canEncode_fc78d_8 (by decide) ?_
    subst hQ
    exact W.zret (ty := .boolean) hx hb hr (by decide) (gRi0 (wf := _) hA0 hsz hw hP hD hS) hS.2.2 dJ1_canEncode_fc78d_12
abbrev rmJ5_append_3fe6f : Room := { frames := 2, cells := 0, slots := 0, locals := 123 }
set_option maxRecDepth 20000 in
theorem inJ5_append_3fe6f_J4 : ∀ w ∈ wsJ40, w ∈ wsJ5_append_3fe6f := by decide +kernel
set_option maxHeartbeats 4000000 in
set_option maxRecDepth 100000 in
theorem ctJ5_append_3fe6f (l : Launch) (g : GG) (t : GT) (a_sb : Nat → Nat) (sz : Nat) (b_ml : Int32) (b_count : Int32) (b_at : Nat → Nat) (b_cap : Nat) (b_bytes : Nat → Int32) (x1 : Int32) {post : Int32 → (Nat → Int32) → Prop} (hw : wpJ5_append_3fe6f x1 b_count b_cap b_bytes post) :
    Met l yJ5_append_3fe6f wsJ5_append_3fe6f rmJ5_append_3fe6f (gPX g t sz (List.flatten [kSO g a_sb b_at b_ml b_count, kBa g b_at b_cap b_bytes]) [.ref (a_sb 0), .int x1]) (gQr2 post (fun u1 u2 => gB g (List.flatten [kSO g a_sb b_at b_ml b_count, kBa g b_at b_cap b_bytes]) sz (List.flatten [kSO g a_sb b_at b_ml u1, kBa g b_at b_cap u2])) (va_A (List.flatten [kSO g a_sb b_at b_ml b_count, kBa g b_at b_cap b_bytes]) sz)) 0 0 (va_A (List.flatten [kSO g a_sb b_at b_ml b_count, kBa g b_at b_cap b_bytes]) sz) := by
  refine gOfX (cc := cJ5_append_3fe6f) (maxL := 2) (ret := (some (.object "java/lang/AbstractStringBuilder"))) (by decide) rfl (Nat.le_of_ble_eq_true rfl) ?_
  intro p e s m below meth c ls Q A hQ hx hb hr hml hts hown hlocks hE hA0 hsz hP hD hA hS hl hX
  have hl : lv_has ls 2 [(0, .ref (a_sb 0)), (1, .int x1)] := hl
  refine lv_aload_n hx hb dJ5_append_3fe6f_0 rfl (lv_at hl 0 rfl) ?_
  refine lv_aload_n hx hb dJ5_append_3fe6f_1 rfl (lv_at hl 0 rfl) ?_
  refine va_get (D := g.1) (ci := 1) (v := .int b_count) (C := RJ4) (T := TJ4) (N := 4) hx hb hts inJ5_append_3fe6f_J4 hown hE.1 hP 0 rfl rfl 3 (by decide) (gW hts 1 (.fieldLink RJ5 79 "java/lang/AbstractStringBuilder" "count" "I") rfl) (fun _ h9 => h9) rfl dJ5_append_3fe6f_2 ?_
  refine lv_iconst (v := 1) hx hb dJ5_append_3fe6f_5 (by decide) ?_
  refine lv_iadd hx hb dJ5_append_3fe6f_6 ?_
  refine gCv0 (gRunU (As := [.int (b_count + 1)]) (rest := []) ⟨hx, hb, hml, hown, hts⟩ (ctJ5_ensureCapacityInternal_d00df l g a_sb _ b_ml b_count b_at b_cap b_bytes (b_count + 1) hw) (va_cwU 1 hts gJ5_append_3fe6f_J5_ensureCapacityInternal_d00df_u100J4 rfl rfl rfl rfl (by decide +kernel) ⟨Nat.le_of_ble_eq_true rfl, Nat.le_of_ble_eq_true rfl⟩) hE (gSub hP [0, 1]) (gDSub hD [0, 1] rfl) 0 1 rfl rfl rfl rfl rfl hl.1 rfl (lv_room (Nat.le_of_ble_eq_true rfl)) dJ5_append_3fe6f_7 ⟨Nat.le_of_ble_eq_true rfl, Nat.le_of_ble_eq_true rfl⟩) hP hD hS hA [0, 1] rfl rfl rfl (fun H locs hw hP hD hS => ?_)
  have hP : va_P g.1 vwCl (List.flatten [kSO g a_sb b_at b_ml b_count, kBa g b_at b_cap b_bytes]) H := hP
  have hD : va_D A (List.flatten [kSO g a_sb b_at b_ml b_count, kBa g b_at b_cap b_bytes]) := hD
  refine lv_aload_n hx hb dJ5_append_3fe6f_10 rfl (lv_at hl 0 rfl) ?_
  refine gCi0 (gRunUX (As := []) (rest := []) ⟨hx, hb, hml, hown, hts⟩ (ctJ5_isLatin1_aae02 l g t a_sb b_at _ b_ml b_count hw) (va_cwU 0 hts gJ5_append_3fe6f_J5_isLatin1_aae02_u83J4 rfl rfl rfl rfl (by decide +kernel) ⟨Nat.le_of_ble_eq_true rfl, Nat.le_of_ble_eq_true rfl⟩) hE hX hS (gFree hD hS hA [0]) (gSub hP [0]) (gDSub hD [0] rfl) 0 1 rfl rfl rfl rfl rfl hl.1 rfl (lv_room (Nat.le_of_ble_eq_true rfl)) dJ5_append_3fe6f_11 ⟨Nat.le_of_ble_eq_true rfl, Nat.le_of_ble_eq_true rfl⟩) hP hD hS hA [0] rfl rfl rfl (fun r2 H locs hw hP hD hS => ?_)
  have hP : va_P g.1 vwCl (List.flatten [kSO g a_sb b_at b_ml b_count, kBa g b_at b_cap b_bytes]) H := hP
  have hD : va_D A (List.flatten [kSO g a_sb b_at b_ml b_count, kBa g b_at b_cap b_bytes]) := hD
  refine lv_if_eq (tgt := 45) hx hb dJ5_append_3fe6f_14 (by decide) (fun c_14 => (hw.1 c_14).elim) (fun c_14 => ?_)
  have hw := hw.2 c_14
  refine lv_iload_n hx hb dJ5_append_3fe6f_17 rfl (lv_at hl 1 rfl) ?_
  refine gCi0 (gRunS (As := [.int x1]) (rest := []) ⟨hx, hb, hml, hown, hts⟩ (ctJ1_canEncode_fc78d l g _ x1 hw) (va_cwS 1 hts gJ5_append_3fe6f_J1_canEncode_fc78d rfl rfl rfl (by decide +kernel) ⟨Nat.le_of_ble_eq_true rfl, Nat.le_of_ble_eq_true rfl⟩) hE (gSub hP []) (gDSub hD [] rfl) rfl rfl hl.1 rfl (lv_room (Nat.le_of_ble_eq_true rfl)) dJ5_append_3fe6f_18 ⟨Nat.le_of_ble_eq_true rfl, Nat.le_of_ble_eq_true rfl⟩) hP hD hS hA [] rfl rfl rfl (fun r3 H locs hw hP hD hS => ?_)
  have hP : va_P g.1 vwCl (List.flatten [kSO g a_sb b_at b_ml b_count, kBa g b_at b_cap b_bytes]) H := hP
  have hD : va_D A (List.flatten [kSO g a_sb b_at b_ml b_count, kBa g b_at b_cap b_bytes]) := hD
  refine lv_if_eq (tgt := 45) hx hb dJ5_append_3fe6f_21 (by decide) (fun c_21 => (hw.1 c_21).elim) (fun c_21 => ?_)
  have hw := hw.2 c_21
  refine lv_aload_n hx hb dJ5_append_3fe6f_24 rfl (lv_at hl 0 rfl) ?_
  refine va_get (D := g.1) (ci := 1) (v := .ref (b_at 0)) (C := RJ4) (T := TJ4) (N := 4) hx hb hts inJ5_append_3fe6f_J4 hown hE.1 hP 0 rfl rfl 0 (by decide) (gW hts 2 (.fieldLink RJ5 15 "java/lang/AbstractStringBuilder" "value" "[B") rfl) (fun _ h9 => h9) rfl dJ5_append_3fe6f_25 ?_
  refine lv_aload_n hx hb dJ5_append_3fe6f_28 rfl (lv_at hl 0 rfl) ?_
  refine lv_dup hx hb dJ5_append_3fe6f_29 rfl ?_
  refine va_get (D := g.1) (ci := 1) (v := .int b_count) (C := RJ4) (T := TJ4) (N := 4) hx hb hts inJ5_append_3fe6f_J4 hown hE.1 hP 0 rfl rfl 3 (by decide) (gW hts 1 (.fieldLink RJ5 79 "java/lang/AbstractStringBuilder" "count" "I") rfl) (fun _ h9 => h9) rfl dJ5_append_3fe6f_30 ?_
  refine lv_dup_x1 hx hb dJ5_append_3fe6f_33 rfl rfl ?_
  refine lv_iconst (v := 1) hx hb dJ5_append_3fe6f_34 (by decide) ?_
  refine lv_iadd hx hb dJ5_append_3fe6f_35 ?_
  refine va_put (D := g.1) (ci := 1) (v := .int (b_count + 1)) (ty := .int) (C := RJ4) (T := TJ4) (N := 4) hx hb hts inJ5_append_3fe6f_J4 tyJ4 tyJ4_ok nmJ4 hown hE.1 hP hD hS 0 rfl rfl 3 (by decide) (gW hts 1 (.fieldLink RJ5 79 "java/lang/AbstractStringBuilder" "count" "I") rfl) (fun _ h9 => h9) rfl (by decide +kernel) rfl rfl (Nat.le_of_ble_eq_true rfl) dJ5_append_3fe6f_36 (fun H locs hP hD hS => ?_)
  have hP : va_P g.1 vwCl (List.flatten [kSO g a_sb b_at b_ml (b_count + 1), kBa g b_at b_cap b_bytes]) H := hP
  have hD : va_D A (List.flatten [kSO g a_sb b_at b_ml (b_count + 1), kBa g b_at b_cap b_bytes]) := hD
  refine lv_iload_n hx hb dJ5_append_3fe6f_39 rfl (lv_at hl 1 rfl) ?_
  refine lv_i2b (v := (x1.toInt8.toInt32)) hx hb dJ5_append_3fe6f_40 rfl ?_
  have h4 := hw.1
  have hw := hw.2
  refine va_bast hx hb hE.1 hP hD hS 1 3 rfl rfl h4 dJ5_append_3fe6f_41 (fun H locs hP hD hS => ?_)
  have hP : va_P g.1 vwCl (List.flatten [kSO g a_sb b_at b_ml (b_count + 1), kBa g b_at b_cap (upd b_bytes b_count.toNatClampNeg (vp_nar .byte (x1.toInt8.toInt32)))]) H := hP
  have hD : va_D A (List.flatten [kSO g a_sb b_at b_ml (b_count + 1), kBa g b_at b_cap (upd b_bytes b_count.toNatClampNeg (vp_nar .byte (x1.toInt8.toInt32)))]) := hD
  refine lv_goto (tgt := 75) hx hb dJ5_append_3fe6f_42 (by decide) ?_
  refine lv_aload_n hx hb dJ5_append_3fe6f_75 rfl (lv_at hl 0 rfl) ?_
  subst hQ
  exact W.aret hx hb hr (Or.inl ⟨_, rfl⟩) (Or.inr ⟨_, rfl⟩) (gRr2 (c1 := (b_count + 1)) (c2 := (upd b_bytes b_count.toNatClampNeg (vp_nar .byte (x1.toInt8.toInt32)))) (wf := _) hA0 hsz hw hP hD hS) hS.2.2 dJ5_append_3fe6f_76
abbrev rmJ4_append_cf468 : Room := { frames := 3, cells := 0, slots := 0, locals := 145 }
set_option maxRecDepth 20000 in
theorem inJ4_append_cf468_J4 : ∀ w ∈ wsJ40, w ∈ wsJ4_append_cf468 := by decide +kernel
set_option maxHeartbeats 4000000 in
set_option maxRecDepth 100000 in
theorem ctJ4_append_cf468 (l : Launch) (g : GG) (t : GT) (a_sb : Nat → Nat) (sz : Nat) (b_ml : Int32) (b_count : Int32) (b_at : Nat → Nat) (b_cap : Nat) (b_bytes : Nat → Int32) (x1 : Int32) {post : Int32 → (Nat → Int32) → Prop} (hw : wpJ4_append_cf468 x1 b_count b_cap b_bytes post) :
    Met l yJ4_append_cf468 wsJ4_append_cf468 rmJ4_append_cf468 (gPX g t sz (List.flatten [kSO g a_sb b_at b_ml b_count, kBa g b_at b_cap b_bytes]) [.ref (a_sb 0), .int x1]) (gQr2 post (fun u1 u2 => gB g (List.flatten [kSO g a_sb b_at b_ml b_count, kBa g b_at b_cap b_bytes]) sz (List.flatten [kSO g a_sb b_at b_ml u1, kBa g b_at b_cap u2])) (va_A (List.flatten [kSO g a_sb b_at b_ml b_count, kBa g b_at b_cap b_bytes]) sz)) 0 0 (va_A (List.flatten [kSO g a_sb b_at b_ml b_count, kBa g b_at b_cap b_bytes]) sz) := by
  refine gOfX (cc := cJ4_append_cf468) (maxL := 2) (ret := (some (.object "java/lang/StringBuilder"))) (by decide) rfl (Nat.le_of_ble_eq_true rfl) ?_
  intro p e s m below meth c ls Q A hQ hx hb hr hml hts hown hlocks hE hA0 hsz hP hD hA hS hl hX
  have hl : lv_has ls 2 [(0, .ref (a_sb 0)), (1, .int x1)] := hl
  refine lv_aload_n hx hb dJ4_append_cf468_0 rfl (lv_at hl 0 rfl) ?_
  refine lv_iload_n hx hb dJ4_append_cf468_1 rfl (lv_at hl 1 rfl) ?_
  refine gCr2 (gRunSUX (As := [.int x1]) (rest := []) ⟨hx, hb, hml, hown, hts⟩ (ctJ5_append_3fe6f l g t a_sb _ b_ml b_count b_at b_cap b_bytes x1 hw) (va_cwSU 1 hts gJ4_append_cf468_J5_append_3fe6f_s50 rfl rfl rfl (by decide +kernel) ⟨Nat.le_of_ble_eq_true rfl, Nat.le_of_ble_eq_true rfl⟩) hE hX hS (gFree hD hS hA [0, 1]) (gSub hP [0, 1]) (gDSub hD [0, 1] rfl) 0 1 rfl rfl rfl rfl rfl hl.1 rfl (lv_room (Nat.le_of_ble_eq_true rfl)) dJ4_append_cf468_2 ⟨Nat.le_of_ble_eq_true rfl, Nat.le_of_ble_eq_true rfl⟩) hP hD hS hA [0, 1] rfl (fun _ _ => rfl) rfl (fun ra1 b_count_v1 b_bytes_v1 H locs hw hP hD hS => ?_)
  have hP : va_P g.1 vwCl (List.flatten [kSO g a_sb b_at b_ml b_count_v1, kBa g b_at b_cap b_bytes_v1]) H := hP
  have hD : va_D A (List.flatten [kSO g a_sb b_at b_ml b_count_v1, kBa g b_at b_cap b_bytes_v1]) := hD
  refine lv_pop hx hb dJ4_append_cf468_5 rfl ?_
  refine lv_aload_n hx hb dJ4_append_cf468_6 rfl (lv_at hl 0 rfl) ?_
  subst hQ
  exact W.aret hx hb hr (Or.inl ⟨_, rfl⟩) (Or.inr ⟨_, rfl⟩) (gRr2 (c1 := b_count_v1) (c2 := b_bytes_v1) (wf := _) hA0 hsz hw hP hD hS) hS.2.2 dJ4_append_cf468_7
abbrev rmJ6_stringSize_0f7a4 : Room := { frames := 1, cells := 0, slots := 0, locals := 100 }
set_option maxHeartbeats 4000000 in
set_option maxRecDepth 100000 in
theorem ctJ6_stringSize_0f7a4 (l : Launch) (g : GG) (sz : Nat) (x0 : Int32) {post : Int32 → Prop} (hw : wpJ6_stringSize_0f7a4 x0 post) :
    Met l yJ6_stringSize_0f7a4 wsJ6_stringSize_0f7a4 rmJ6_stringSize_0f7a4 (gPc g sz (List.flatten []) [.int x0]) (gQi0 post (gB g (List.flatten []) sz (List.flatten [])) (va_A (List.flatten []) sz)) 0 0 (va_A (List.flatten []) sz) := by
  refine gOf (cc := cJ6_stringSize_0f7a4) (maxL := 4) (ret := (some .int)) (by decide) rfl (Nat.le_of_ble_eq_true rfl) ?_
  intro p e s m below meth c ls Q A hQ hx hb hr hml hts hown hlocks hE hA0 hsz hP hD hA hS hl
  have hl : lv_has ls 4 [(0, .int x0)] := hl
  have L16 : ∀ (n : Nat) (x0_16 : Int32) (x1_16 : Int32) (x2_16 : Int32) (x3_16 : Int32) (H : Heap) (locs : List Loc) (ls : Array Slot), wpJ6_stringSize_0f7a4_L16 x0_16 x1_16 post n x2_16 x3_16 → va_P g.1 vwCl (List.flatten []) H → va_D A (List.flatten []) → va_S A s.heap H locs → lv_has ls 4 [(0, .int x0_16), (1, .int x1_16), (2, .int x2_16), (3, .int x3_16)] → W p l e rmJ6_stringSize_0f7a4 s m (([.int x0] : List Value).toArray) below meth c H locs 0 0 Q (F0 m 16 ls []) := by
    intro n_16
    induction n_16 with
    | zero => intro x0_16 x1_16 x2_16 x3_16 H locs ls hw; exact False.elim hw
    | succ n_16 ih_16 =>
      intro x0_16 x1_16 x2_16 x3_16 H locs ls hw hP hD hS hl
      refine lv_iload_n hx hb dJ6_stringSize_0f7a4_16 rfl (lv_at hl 3 rfl) ?_
      refine lv_bipush (v := 10) hx hb dJ6_stringSize_0f7a4_17 (by decide) ?_
      refine lv_icmp_ge (tgt := 42) hx hb dJ6_stringSize_0f7a4_19 (by decide) (fun c_19 => ?_) (fun c_19 => ?_)
      · have hw := hw.1 c_19
        refine lv_bipush (v := 10) hx hb dJ6_stringSize_0f7a4_42 (by decide) ?_
        refine lv_iload_n hx hb dJ6_stringSize_0f7a4_44 rfl (lv_at hl 1 rfl) ?_
        refine lv_iadd hx hb dJ6_stringSize_0f7a4_45 ?_
        subst hQ
        exact W.iret hx hb hr (gRi0 (wf := _) hA0 hsz hw hP hD hS) hS.2.2 dJ6_stringSize_0f7a4_46
      · have hw := hw.2 c_19
        refine lv_iload_n hx hb dJ6_stringSize_0f7a4_22 rfl (lv_at hl 0 rfl) ?_
        refine lv_iload_n hx hb dJ6_stringSize_0f7a4_23 rfl (lv_at hl 2 rfl) ?_
        refine lv_icmp_le (tgt := 31) hx hb dJ6_stringSize_0f7a4_24 (by decide) (fun c_24 => ?_) (fun c_24 => ?_)
        · have hw := hw.1 c_24
          refine lv_bipush (v := 10) hx hb dJ6_stringSize_0f7a4_31 (by decide) ?_
          refine lv_iload_n hx hb dJ6_stringSize_0f7a4_33 rfl (lv_at hl 2 rfl) ?_
          refine lv_imul hx hb dJ6_stringSize_0f7a4_34 ?_
          refine lv_istore_n (lv' := [(2, .int (10 * x2_16)), (0, .int x0_16), (1, .int x1_16), (3, .int x3_16)]) hx hb dJ6_stringSize_0f7a4_35 rfl hl (by decide) rfl (fun ls hl => ?_)
          refine lv_iinc (v := (x3_16 + 1)) (lv' := [(3, .int (x3_16 + 1)), (2, .int (10 * x2_16)), (0, .int x0_16), (1, .int x1_16)]) hx hb dJ6_stringSize_0f7a4_36 hl (k := 3) rfl rfl (by decide) rfl (fun ls hl => ?_)
          refine lv_goto (tgt := 16) hx hb dJ6_stringSize_0f7a4_39 (by decide) ?_
          exact ih_16 x0_16 x1_16 (10 * x2_16) (x3_16 + 1) _ _ _ hw hP hD hS (lv_sub hl [2, 3, 1, 0] rfl)
        · have hw := hw.2 c_24
          refine lv_iload_n hx hb dJ6_stringSize_0f7a4_27 rfl (lv_at hl 3 rfl) ?_
          refine lv_iload_n hx hb dJ6_stringSize_0f7a4_28 rfl (lv_at hl 1 rfl) ?_
          refine lv_iadd hx hb dJ6_stringSize_0f7a4_29 ?_
          subst hQ
          exact W.iret hx hb hr (gRi0 (wf := _) hA0 hsz hw hP hD hS) hS.2.2 dJ6_stringSize_0f7a4_30
  refine lv_iconst (v := 1) hx hb dJ6_stringSize_0f7a4_0 (by decide) ?_
  refine lv_istore_n (lv' := [(1, .int 1), (0, .int x0)]) hx hb dJ6_stringSize_0f7a4_1 rfl hl (by decide) rfl (fun ls hl => ?_)
  refine lv_iload_n hx hb dJ6_stringSize_0f7a4_2 rfl (lv_at hl 1 rfl) ?_
  refine lv_if_lt (tgt := 11) hx hb dJ6_stringSize_0f7a4_3 (by decide) (fun c_3 => ?_) (fun c_3 => ?_)
  · have hw := hw.1 c_3
    refine lv_bipush (v := (-10)) hx hb dJ6_stringSize_0f7a4_11 (by decide) ?_
    refine lv_istore_n (lv' := [(2, .int (-10)), (1, .int 1), (0, .int x0)]) hx hb dJ6_stringSize_0f7a4_13 rfl hl (by decide) rfl (fun ls hl => ?_)
    refine lv_iconst (v := 1) hx hb dJ6_stringSize_0f7a4_14 (by decide) ?_
    refine lv_istore_n (lv' := [(3, .int 1), (2, .int (-10)), (1, .int 1), (0, .int x0)]) hx hb dJ6_stringSize_0f7a4_15 rfl hl (by decide) rfl (fun ls hl => ?_)
    obtain ⟨n, hw⟩ := hw
    exact L16 n x0 1 (-10) 1 _ _ _ hw hP hD hS (lv_sub hl [3, 2, 1, 0] rfl)
  · have hw := hw.2 c_3
    refine lv_iconst (v := 0) hx hb dJ6_stringSize_0f7a4_6 (by decide) ?_
    refine lv_istore_n (lv' := [(1, .int 0), (0, .int x0)]) hx hb dJ6_stringSize_0f7a4_7 rfl hl (by decide) rfl (fun ls hl => ?_)
    refine lv_iload_n hx hb dJ6_stringSize_0f7a4_8 rfl (lv_at hl 1 rfl) ?_
    refine lv_ineg hx hb dJ6_stringSize_0f7a4_9 ?_
    refine lv_istore_n (lv' := [(0, .int (-x0)), (1, .int 0)]) hx hb dJ6_stringSize_0f7a4_10 rfl hl (by decide) rfl (fun ls hl => ?_)
    refine lv_bipush (v := (-10)) hx hb dJ6_stringSize_0f7a4_11 (by decide) ?_
    refine lv_istore_n (lv' := [(2, .int (-10)), (0, .int (-x0)), (1, .int 0)]) hx hb dJ6_stringSize_0f7a4_13 rfl hl (by decide) rfl (fun ls hl => ?_)
    refine lv_iconst (v := 1) hx hb dJ6_stringSize_0f7a4_14 (by decide) ?_
    refine lv_istore_n (lv' := [(3, .int 1), (2, .int (-10)), (0, .int (-x0)), (1, .int 0)]) hx hb dJ6_stringSize_0f7a4_15 rfl hl (by decide) rfl (fun ls hl => ?_)
    obtain ⟨n, hw⟩ := hw
    exact L16 n (-x0) 0 (-10) 1 _ _ _ hw hP hD hS (lv_sub hl [2, 3, 1, 0] rfl)
abbrev rmJ6_getChars_ba4f3 : Room := { frames := 1, cells := 0, slots := 0, locals := 100 }
set_option maxHeartbeats 4000000 in
set_option maxRecDepth 100000 in
theorem ctJ6_getChars_ba4f3 (l : Launch) (g : GG) (t : GT) (sz : Nat) (b_at : Nat → Nat) (b_cap : Nat) (b_bytes : Nat → Int32) (x0 : Int32) (x1 : Int32) {post : Int32 → (Nat → Int32) → Prop} (hw : wpJ6_getChars_ba4f3 x0 x1 b_cap b_bytes post) :
    Met l yJ6_getChars_ba4f3 wsJ6_getChars_ba4f3 rmJ6_getChars_ba4f3 (gPX g t sz (List.flatten [kBa g b_at b_cap b_bytes]) [.int x0, .int x1, .ref (b_at 0)]) (gQi1 post (fun u1 => gB g (List.flatten [kBa g b_at b_cap b_bytes]) sz (List.flatten [kBa g b_at b_cap u1])) (va_A (List.flatten [kBa g b_at b_cap b_bytes]) sz)) 0 0 (va_A (List.flatten [kBa g b_at b_cap b_bytes]) sz) := by
  refine gOfX (cc := cJ6_getChars_ba4f3) (maxL := 7) (ret := (some .int)) (by decide) rfl (Nat.le_of_ble_eq_true rfl) ?_
  intro p e s m below meth c ls Q A hQ hx hb hr hml hts hown hlocks hE hA0 hsz hP hD hA hS hl hX
  have hl : lv_has ls 7 [(0, .int x0), (1, .int x1), (2, .ref (b_at 0))] := hl
  have J104 : ∀ (x5_104 : Int32) (x6_104 : Int32) (b_bytes_104 : Nat → Int32) (H : Heap) (locs : List Loc) (ls : Array Slot), wpJ6_getChars_ba4f3_L104 b_cap post x5_104 x6_104 b_bytes_104 → va_P g.1 vwCl (List.flatten [kBa g b_at b_cap b_bytes_104]) H → va_D A (List.flatten [kBa g b_at b_cap b_bytes_104]) → va_S A s.heap H locs → lv_has ls 7 [(2, .ref (b_at 0)), (5, .int x5_104), (6, .int x6_104)] → W p l e rmJ6_getChars_ba4f3 s m (([.int x0, .int x1, .ref (b_at 0)] : List Value).toArray) below meth c H locs 0 0 Q (F0 m 104 ls []) := by
    intro x5_104 x6_104 b_bytes_104 H locs ls hw hP hD hS hl
    refine lv_iload hx hb dJ6_getChars_ba4f3_104 (lv_at hl 2 rfl) ?_
    refine lv_if_eq (tgt := 118) hx hb dJ6_getChars_ba4f3_106 (by decide) (fun c_106 => ?_) (fun c_106 => ?_)
    · have hw := hw.1 c_106
      refine lv_iload hx hb dJ6_getChars_ba4f3_118 (lv_at hl 1 rfl) ?_
      subst hQ
      exact W.iret hx hb hr (gRi1 (c1 := b_bytes_104) (wf := _) hA0 hsz hw hP hD hS) hS.2.2 dJ6_getChars_ba4f3_120
    · have hw := hw.2 c_106
      refine lv_aload_n hx hb dJ6_getChars_ba4f3_109 rfl (lv_at hl 0 rfl) ?_
      refine lv_iinc (v := (x5_104 + (-1))) (lv' := [(5, .int (x5_104 + (-1))), (2, .ref (b_at 0)), (6, .int x6_104)]) hx hb dJ6_getChars_ba4f3_110 hl (k := 1) rfl rfl (by decide) rfl (fun ls hl => ?_)
      refine lv_iload hx hb dJ6_getChars_ba4f3_113 (lv_at hl 0 rfl) ?_
      refine lv_bipush (v := 45) hx hb dJ6_getChars_ba4f3_115 (by decide) ?_
      have h3 := hw.1
      have hw := hw.2
      refine va_bast hx hb hE.1 hP hD hS 0 3 rfl rfl h3 dJ6_getChars_ba4f3_117 (fun H locs hP hD hS => ?_)
      have hP : va_P g.1 vwCl (List.flatten [kBa g b_at b_cap (upd b_bytes_104 (x5_104 + (-1)).toNatClampNeg (vp_nar .byte 45))]) H := hP
      have hD : va_D A (List.flatten [kBa g b_at b_cap (upd b_bytes_104 (x5_104 + (-1)).toNatClampNeg (vp_nar .byte 45))]) := hD
      refine lv_iload hx hb dJ6_getChars_ba4f3_118 (lv_at hl 0 rfl) ?_
      subst hQ
      exact W.iret hx hb hr (gRi1 (c1 := (upd b_bytes_104 (x5_104 + (-1)).toNatClampNeg (vp_nar .byte 45))) (wf := _) hA0 hsz hw hP hD hS) hS.2.2 dJ6_getChars_ba4f3_120
  have L22 : ∀ (n : Nat) (x6_22 : Int32) (x0_22 : Int32) (x5_22 : Int32) (b_bytes_22 : Nat → Int32) (H : Heap) (locs : List Loc) (ls : Array Slot), wpJ6_getChars_ba4f3_L22 b_cap x6_22 post n x0_22 x5_22 b_bytes_22 → va_P g.1 vwCl (List.flatten [kBa g b_at b_cap b_bytes_22]) H → va_D A (List.flatten [kBa g b_at b_cap b_bytes_22]) → va_S A s.heap H locs → lv_has ls 7 [(0, .int x0_22), (2, .ref (b_at 0)), (5, .int x5_22), (6, .int x6_22)] → W p l e rmJ6_getChars_ba4f3 s m (([.int x0, .int x1, .ref (b_at 0)] : List Value).toArray) below meth c H locs 0 0 Q (F0 m 22 ls []) := by
    intro n_22
    induction n_22 with
    | zero => intro x6_22 x0_22 x5_22 b_bytes_22 H locs ls hw; exact False.elim hw
    | succ n_22 ih_22 =>
      intro x6_22 x0_22 x5_22 b_bytes_22 H locs ls hw hP hD hS hl
      refine lv_iload_n hx hb dJ6_getChars_ba4f3_22 rfl (lv_at hl 0 rfl) ?_
      refine lv_bipush (v := (-100)) hx hb dJ6_getChars_ba4f3_23 (by decide) ?_
      refine lv_icmp_gt (tgt := 72) hx hb dJ6_getChars_ba4f3_25 (by decide) (fun c_25 => ?_) (fun c_25 => ?_)
      · have hw := hw.1 c_25
        refine lv_aload_n hx hb dJ6_getChars_ba4f3_72 rfl (lv_at hl 1 rfl) ?_
        refine lv_iinc (v := (x5_22 + (-1))) (lv' := [(5, .int (x5_22 + (-1))), (0, .int x0_22), (2, .ref (b_at 0)), (6, .int x6_22)]) hx hb dJ6_getChars_ba4f3_73 hl (k := 2) rfl rfl (by decide) rfl (fun ls hl => ?_)
        refine lv_iload hx hb dJ6_getChars_ba4f3_76 (lv_at hl 0 rfl) ?_
        refine va_gets hx hb (hX.1.2.2.2.2.2.1) hS hown (gW hts 1 (.fieldLink RJ6 83 "java/lang/Integer" "DigitOnes" "[B") rfl) (fun _ h9 => h9) dJ6_getChars_ba4f3_78 ?_
        refine lv_iload_n hx hb dJ6_getChars_ba4f3_81 rfl (lv_at hl 1 rfl) ?_
        refine lv_ineg hx hb dJ6_getChars_ba4f3_82 ?_
        have h1 := hw.1
        have hw := hw.2
        refine va_tb (v := .int (gOnes (-x0_22).toNatClampNeg)) hx hb (hX.1.2.2.2.2.2.2.1) hS h1 rfl dJ6_getChars_ba4f3_83 ?_
        have h2 := hw.1
        have hw := hw.2
        refine va_bast hx hb hE.1 hP hD hS 0 3 rfl rfl h2 dJ6_getChars_ba4f3_84 (fun H locs hP hD hS => ?_)
        have hP : va_P g.1 vwCl (List.flatten [kBa g b_at b_cap (upd b_bytes_22 (x5_22 + (-1)).toNatClampNeg (vp_nar .byte (gOnes (-x0_22).toNatClampNeg)))]) H := hP
        have hD : va_D A (List.flatten [kBa g b_at b_cap (upd b_bytes_22 (x5_22 + (-1)).toNatClampNeg (vp_nar .byte (gOnes (-x0_22).toNatClampNeg)))]) := hD
        refine lv_iload_n hx hb dJ6_getChars_ba4f3_85 rfl (lv_at hl 1 rfl) ?_
        refine lv_bipush (v := (-9)) hx hb dJ6_getChars_ba4f3_86 (by decide) ?_
        refine lv_icmp_ge (tgt := 104) hx hb dJ6_getChars_ba4f3_88 (by decide) (fun c_88 => ?_) (fun c_88 => ?_)
        · have hw := hw.1 c_88
          exact J104 (x5_22 + (-1)) x6_22 (upd b_bytes_22 (x5_22 + (-1)).toNatClampNeg (vp_nar .byte (gOnes (-x0_22).toNatClampNeg))) _ _ _ hw hP hD hS (lv_sub hl [2, 0, 3] rfl)
        · have hw := hw.2 c_88
          refine lv_aload_n hx hb dJ6_getChars_ba4f3_91 rfl (lv_at hl 2 rfl) ?_
          refine lv_iinc (v := ((x5_22 + (-1)) + (-1))) (lv' := [(5, .int ((x5_22 + (-1)) + (-1))), (0, .int x0_22), (2, .ref (b_at 0)), (6, .int x6_22)]) hx hb dJ6_getChars_ba4f3_92 hl (k := 0) rfl rfl (by decide) rfl (fun ls hl => ?_)
          refine lv_iload hx hb dJ6_getChars_ba4f3_95 (lv_at hl 0 rfl) ?_
          refine va_gets hx hb (hX.1.2.2.2.2.2.2.2.1) hS hown (gW hts 2 (.fieldLink RJ6 87 "java/lang/Integer" "DigitTens" "[B") rfl) (fun _ h9 => h9) dJ6_getChars_ba4f3_97 ?_
          refine lv_iload_n hx hb dJ6_getChars_ba4f3_100 rfl (lv_at hl 1 rfl) ?_
          refine lv_ineg hx hb dJ6_getChars_ba4f3_101 ?_
          have h4 := hw.1
          have hw := hw.2
          refine va_tb (v := .int (gTens (-x0_22).toNatClampNeg)) hx hb (hX.1.2.2.2.2.2.2.2.2.1) hS h4 rfl dJ6_getChars_ba4f3_102 ?_
          have h5 := hw.1
          have hw := hw.2
          refine va_bast hx hb hE.1 hP hD hS 0 3 rfl rfl h5 dJ6_getChars_ba4f3_103 (fun H locs hP hD hS => ?_)
          have hP : va_P g.1 vwCl (List.flatten [kBa g b_at b_cap (upd (upd b_bytes_22 (x5_22 + (-1)).toNatClampNeg (vp_nar .byte (gOnes (-x0_22).toNatClampNeg))) ((x5_22 + (-1)) + (-1)).toNatClampNeg (vp_nar .byte (gTens (-x0_22).toNatClampNeg)))]) H := hP
          have hD : va_D A (List.flatten [kBa g b_at b_cap (upd (upd b_bytes_22 (x5_22 + (-1)).toNatClampNeg (vp_nar .byte (gOnes (-x0_22).toNatClampNeg))) ((x5_22 + (-1)) + (-1)).toNatClampNeg (vp_nar .byte (gTens (-x0_22).toNatClampNeg)))]) := hD
          exact J104 ((x5_22 + (-1)) + (-1)) x6_22 (upd (upd b_bytes_22 (x5_22 + (-1)).toNatClampNeg (vp_nar .byte (gOnes (-x0_22).toNatClampNeg))) ((x5_22 + (-1)) + (-1)).toNatClampNeg (vp_nar .byte (gTens (-x0_22).toNatClampNeg))) _ _ _ hw hP hD hS (lv_sub hl [2, 0, 3] rfl)
      · have hw := hw.2 c_25
        refine lv_iload_n hx hb dJ6_getChars_ba4f3_28 rfl (lv_at hl 0 rfl) ?_
        refine lv_bipush (v := 100) hx hb dJ6_getChars_ba4f3_29 (by decide) ?_
        refine lv_idiv hx hb dJ6_getChars_ba4f3_31 (by decide) ?_
        refine lv_istore_n (lv' := [(3, .int (x0_22 / 100)), (0, .int x0_22), (2, .ref (b_at 0)), (5, .int x5_22), (6, .int x6_22)]) hx hb dJ6_getChars_ba4f3_32 rfl hl (by decide) rfl (fun ls hl => ?_)
        refine lv_iload_n hx hb dJ6_getChars_ba4f3_33 rfl (lv_at hl 0 rfl) ?_
        refine lv_bipush (v := 100) hx hb dJ6_getChars_ba4f3_34 (by decide) ?_
        refine lv_imul hx hb dJ6_getChars_ba4f3_36 ?_
        refine lv_iload_n hx hb dJ6_getChars_ba4f3_37 rfl (lv_at hl 1 rfl) ?_
        refine lv_isub hx hb dJ6_getChars_ba4f3_38 ?_
        refine lv_istore (lv' := [(4, .int (((x0_22 / 100) * 100) - x0_22)), (3, .int (x0_22 / 100)), (0, .int x0_22), (2, .ref (b_at 0)), (5, .int x5_22), (6, .int x6_22)]) hx hb dJ6_getChars_ba4f3_39 hl (by decide) rfl (fun ls hl => ?_)
        refine lv_iload_n hx hb dJ6_getChars_ba4f3_41 rfl (lv_at hl 1 rfl) ?_
        refine lv_istore_n (lv' := [(0, .int (x0_22 / 100)), (4, .int (((x0_22 / 100) * 100) - x0_22)), (3, .int (x0_22 / 100)), (2, .ref (b_at 0)), (5, .int x5_22), (6, .int x6_22)]) hx hb dJ6_getChars_ba4f3_42 rfl hl (by decide) rfl (fun ls hl => ?_)
        refine lv_aload_n hx hb dJ6_getChars_ba4f3_43 rfl (lv_at hl 3 rfl) ?_
        refine lv_iinc (v := (x5_22 + (-1))) (lv' := [(5, .int (x5_22 + (-1))), (0, .int (x0_22 / 100)), (4, .int (((x0_22 / 100) * 100) - x0_22)), (3, .int (x0_22 / 100)), (2, .ref (b_at 0)), (6, .int x6_22)]) hx hb dJ6_getChars_ba4f3_44 hl (k := 4) rfl rfl (by decide) rfl (fun ls hl => ?_)
        refine lv_iload hx hb dJ6_getChars_ba4f3_47 (lv_at hl 0 rfl) ?_
        refine va_gets hx hb (hX.1.2.2.2.2.2.1) hS hown (gW hts 1 (.fieldLink RJ6 83 "java/lang/Integer" "DigitOnes" "[B") rfl) (fun _ h9 => h9) dJ6_getChars_ba4f3_49 ?_
        refine lv_iload hx hb dJ6_getChars_ba4f3_52 (lv_at hl 2 rfl) ?_
        have h6 := hw.1
        have hw := hw.2
        refine va_tb (v := .int (gOnes (((x0_22 / 100) * 100) - x0_22).toNatClampNeg)) hx hb (hX.1.2.2.2.2.2.2.1) hS h6 rfl dJ6_getChars_ba4f3_54 ?_
        have h7 := hw.1
        have hw := hw.2
        refine va_bast hx hb hE.1 hP hD hS 0 3 rfl rfl h7 dJ6_getChars_ba4f3_55 (fun H locs hP hD hS => ?_)
        have hP : va_P g.1 vwCl (List.flatten [kBa g b_at b_cap (upd b_bytes_22 (x5_22 + (-1)).toNatClampNeg (vp_nar .byte (gOnes (((x0_22 / 100) * 100) - x0_22).toNatClampNeg)))]) H := hP
        have hD : va_D A (List.flatten [kBa g b_at b_cap (upd b_bytes_22 (x5_22 + (-1)).toNatClampNeg (vp_nar .byte (gOnes (((x0_22 / 100) * 100) - x0_22).toNatClampNeg)))]) := hD
        refine lv_aload_n hx hb dJ6_getChars_ba4f3_56 rfl (lv_at hl 4 rfl) ?_
        refine lv_iinc (v := ((x5_22 + (-1)) + (-1))) (lv' := [(5, .int ((x5_22 + (-1)) + (-1))), (0, .int (x0_22 / 100)), (4, .int (((x0_22 / 100) * 100) - x0_22)), (3, .int (x0_22 / 100)), (2, .ref (b_at 0)), (6, .int x6_22)]) hx hb dJ6_getChars_ba4f3_57 hl (k := 0) rfl rfl (by decide) rfl (fun ls hl => ?_)
        refine lv_iload hx hb dJ6_getChars_ba4f3_60 (lv_at hl 0 rfl) ?_
        refine va_gets hx hb (hX.1.2.2.2.2.2.2.2.1) hS hown (gW hts 2 (.fieldLink RJ6 87 "java/lang/Integer" "DigitTens" "[B") rfl) (fun _ h9 => h9) dJ6_getChars_ba4f3_62 ?_
        refine lv_iload hx hb dJ6_getChars_ba4f3_65 (lv_at hl 2 rfl) ?_
        have h8 := hw.1
        have hw := hw.2
        refine va_tb (v := .int (gTens (((x0_22 / 100) * 100) - x0_22).toNatClampNeg)) hx hb (hX.1.2.2.2.2.2.2.2.2.1) hS h8 rfl dJ6_getChars_ba4f3_67 ?_
        have h9 := hw.1
        have hw := hw.2
        refine va_bast hx hb hE.1 hP hD hS 0 3 rfl rfl h9 dJ6_getChars_ba4f3_68 (fun H locs hP hD hS => ?_)
        have hP : va_P g.1 vwCl (List.flatten [kBa g b_at b_cap (upd (upd b_bytes_22 (x5_22 + (-1)).toNatClampNeg (vp_nar .byte (gOnes (((x0_22 / 100) * 100) - x0_22).toNatClampNeg))) ((x5_22 + (-1)) + (-1)).toNatClampNeg (vp_nar .byte (gTens (((x0_22 / 100) * 100) - x0_22).toNatClampNeg)))]) H := hP
        have hD : va_D A (List.flatten [kBa g b_at b_cap (upd (upd b_bytes_22 (x5_22 + (-1)).toNatClampNeg (vp_nar .byte (gOnes (((x0_22 / 100) * 100) - x0_22).toNatClampNeg))) ((x5_22 + (-1)) + (-1)).toNatClampNeg (vp_nar .byte (gTens (((x0_22 / 100) * 100) - x0_22).toNatClampNeg)))]) := hD
        refine lv_goto (tgt := 22) hx hb dJ6_getChars_ba4f3_69 (by decide) ?_
        exact ih_22 x6_22 (x0_22 / 100) ((x5_22 + (-1)) + (-1)) (upd (upd b_bytes_22 (x5_22 + (-1)).toNatClampNeg (vp_nar .byte (gOnes (((x0_22 / 100) * 100) - x0_22).toNatClampNeg))) ((x5_22 + (-1)) + (-1)).toNatClampNeg (vp_nar .byte (gTens (((x0_22 / 100) * 100) - x0_22).toNatClampNeg))) _ _ _ hw hP hD hS (lv_sub hl [1, 4, 0, 5] rfl)
  refine lv_iload_n hx hb dJ6_getChars_ba4f3_0 rfl (lv_at hl 1 rfl) ?_
  refine lv_istore (lv' := [(5, .int x1), (0, .int x0), (1, .int x1), (2, .ref (b_at 0))]) hx hb dJ6_getChars_ba4f3_1 hl (by decide) rfl (fun ls hl => ?_)
  refine lv_iload_n hx hb dJ6_getChars_ba4f3_3 rfl (lv_at hl 1 rfl) ?_
  refine lv_if_ge (tgt := 11) hx hb dJ6_getChars_ba4f3_4 (by decide) (fun c_4 => ?_) (fun c_4 => ?_)
  · have hw := hw.1 c_4
    refine lv_iconst (v := 0) hx hb dJ6_getChars_ba4f3_11 (by decide) ?_
    refine lv_istore (lv' := [(6, .int 0), (5, .int x1), (0, .int x0), (1, .int x1), (2, .ref (b_at 0))]) hx hb dJ6_getChars_ba4f3_12 hl (by decide) rfl (fun ls hl => ?_)
    refine lv_iload hx hb dJ6_getChars_ba4f3_14 (lv_at hl 0 rfl) ?_
    refine lv_if_ne (tgt := 22) hx hb dJ6_getChars_ba4f3_16 (by decide) (fun c_16 => ?_) (fun c_16 => ?_)
    · have hw := hw.1 c_16
      obtain ⟨n, hw⟩ := hw
      exact L22 n 0 x0 x1 b_bytes _ _ _ hw hP hD hS (lv_sub hl [2, 4, 1, 0] rfl)
    · have hw := hw.2 c_16
      refine lv_iload_n hx hb dJ6_getChars_ba4f3_19 rfl (lv_at hl 2 rfl) ?_
      refine lv_ineg hx hb dJ6_getChars_ba4f3_20 ?_
      refine lv_istore_n (lv' := [(0, .int (-x0)), (6, .int 0), (5, .int x1), (1, .int x1), (2, .ref (b_at 0))]) hx hb dJ6_getChars_ba4f3_21 rfl hl (by decide) rfl (fun ls hl => ?_)
      obtain ⟨n, hw⟩ := hw
      exact L22 n 0 (-x0) x1 b_bytes _ _ _ hw hP hD hS (lv_sub hl [0, 4, 2, 1] rfl)
  · have hw := hw.2 c_4
    refine lv_iconst (v := 1) hx hb dJ6_getChars_ba4f3_7 (by decide) ?_
    refine lv_goto (tgt := 12) hx hb dJ6_getChars_ba4f3_8 (by decide) ?_
    refine lv_istore (lv' := [(6, .int 1), (5, .int x1), (0, .int x0), (1, .int x1), (2, .ref (b_at 0))]) hx hb dJ6_getChars_ba4f3_12 hl (by decide) rfl (fun ls hl => ?_)
    refine lv_iload hx hb dJ6_getChars_ba4f3_14 (lv_at hl 0 rfl) ?_
    refine lv_if_ne (tgt := 22) hx hb dJ6_getChars_ba4f3_16 (by decide) (fun c_16 => ?_) (fun c_16 => ?_)
    · have hw := hw.1 c_16
      obtain ⟨n, hw⟩ := hw
      exact L22 n 1 x0 x1 b_bytes _ _ _ hw hP hD hS (lv_sub hl [2, 4, 1, 0] rfl)
    · have hw := hw.2 c_16
      refine lv_iload_n hx hb dJ6_getChars_ba4f3_19 rfl (lv_at hl 2 rfl) ?_
      refine lv_ineg hx hb dJ6_getChars_ba4f3_20 ?_
      refine lv_istore_n (lv' := [(0, .int (-x0)), (6, .int 1), (5, .int x1), (1, .int x1), (2, .ref (b_at 0))]) hx hb dJ6_getChars_ba4f3_21 rfl hl (by decide) rfl (fun ls hl => ?_)
      obtain ⟨n, hw⟩ := hw
      exact L22 n 1 (-x0) x1 b_bytes _ _ _ hw hP hD hS (lv_sub hl [0, 4, 2, 1] rfl)
abbrev rmJ5_append_c97b9 : Room := { frames := 2, cells := 0, slots := 0, locals := 127 }
set_option maxRecDepth 20000 in
theorem inJ5_append_c97b9_J4 : ∀ w ∈ wsJ40, w ∈ wsJ5_append_c97b9 := by decide +kernel
set_option maxHeartbeats 4000000 in
set_option maxRecDepth 100000 in
theorem ctJ5_append_c97b9 (l : Launch) (g : GG) (t : GT) (a_sb : Nat → Nat) (sz : Nat) (b_ml : Int32) (b_count : Int32) (b_at : Nat → Nat) (b_cap : Nat) (b_bytes : Nat → Int32) (x1 : Int32) {post : Int32 → (Nat → Int32) → Prop} (hw : wpJ5_append_c97b9 x1 b_count b_cap b_bytes post) :
    Met l yJ5_append_c97b9 wsJ5_append_c97b9 rmJ5_append_c97b9 (gPX g t sz (List.flatten [kSO g a_sb b_at b_ml b_count, kBa g b_at b_cap b_bytes]) [.ref (a_sb 0), .int x1]) (gQr2 post (fun u1 u2 => gB g (List.flatten [kSO g a_sb b_at b_ml b_count, kBa g b_at b_cap b_bytes]) sz (List.flatten [kSO g a_sb b_at b_ml u1, kBa g b_at b_cap u2])) (va_A (List.flatten [kSO g a_sb b_at b_ml b_count, kBa g b_at b_cap b_bytes]) sz)) 0 0 (va_A (List.flatten [kSO g a_sb b_at b_ml b_count, kBa g b_at b_cap b_bytes]) sz) := by
  refine gOfX (cc := cJ5_append_c97b9) (maxL := 4) (ret := (some (.object "java/lang/AbstractStringBuilder"))) (by decide) rfl (Nat.le_of_ble_eq_true rfl) ?_
  intro p e s m below meth c ls Q A hQ hx hb hr hml hts hown hlocks hE hA0 hsz hP hD hA hS hl hX
  have hl : lv_has ls 4 [(0, .ref (a_sb 0)), (1, .int x1)] := hl
  refine lv_aload_n hx hb dJ5_append_c97b9_0 rfl (lv_at hl 0 rfl) ?_
  refine va_get (D := g.1) (ci := 1) (v := .int b_count) (C := RJ4) (T := TJ4) (N := 4) hx hb hts inJ5_append_c97b9_J4 hown hE.1 hP 0 rfl rfl 3 (by decide) (gW hts 1 (.fieldLink RJ5 79 "java/lang/AbstractStringBuilder" "count" "I") rfl) (fun _ h9 => h9) rfl dJ5_append_c97b9_1 ?_
  refine lv_istore_n (lv' := [(2, .int b_count), (0, .ref (a_sb 0)), (1, .int x1)]) hx hb dJ5_append_c97b9_4 rfl hl (by decide) rfl (fun ls hl => ?_)
  refine lv_iload_n hx hb dJ5_append_c97b9_5 rfl (lv_at hl 0 rfl) ?_
  refine lv_iload_n hx hb dJ5_append_c97b9_6 rfl (lv_at hl 2 rfl) ?_
  refine gCi0 (gRunS (As := [.int x1]) (rest := [.int b_count]) ⟨hx, hb, hml, hown, hts⟩ (ctJ6_stringSize_0f7a4 l g _ x1 hw) (va_cwS 1 hts gJ5_append_c97b9_J6_stringSize_0f7a4 rfl rfl rfl (by decide +kernel) ⟨Nat.le_of_ble_eq_true rfl, Nat.le_of_ble_eq_true rfl⟩) hE (gSub hP []) (gDSub hD [] rfl) rfl rfl hl.1 rfl (lv_room (Nat.le_of_ble_eq_true rfl)) dJ5_append_c97b9_7 ⟨Nat.le_of_ble_eq_true rfl, Nat.le_of_ble_eq_true rfl⟩) hP hD hS hA [] rfl rfl rfl (fun r1 H locs hw hP hD hS => ?_)
  have hP : va_P g.1 vwCl (List.flatten [kSO g a_sb b_at b_ml b_count, kBa g b_at b_cap b_bytes]) H := hP
  have hD : va_D A (List.flatten [kSO g a_sb b_at b_ml b_count, kBa g b_at b_cap b_bytes]) := hD
  refine lv_iadd hx hb dJ5_append_c97b9_10 ?_
  refine lv_istore_n (lv' := [(3, .int (b_count + r1)), (2, .int b_count), (0, .ref (a_sb 0)), (1, .int x1)]) hx hb dJ5_append_c97b9_11 rfl hl (by decide) rfl (fun ls hl => ?_)
  refine lv_aload_n hx hb dJ5_append_c97b9_12 rfl (lv_at hl 2 rfl) ?_
  refine lv_iload_n hx hb dJ5_append_c97b9_13 rfl (lv_at hl 0 rfl) ?_
  refine gCv0 (gRunU (As := [.int (b_count + r1)]) (rest := []) ⟨hx, hb, hml, hown, hts⟩ (ctJ5_ensureCapacityInternal_d00df l g a_sb _ b_ml b_count b_at b_cap b_bytes (b_count + r1) hw) (va_cwU 1 hts gJ5_append_c97b9_J5_ensureCapacityInternal_d00df_u100J4 rfl rfl rfl rfl (by decide +kernel) ⟨Nat.le_of_ble_eq_true rfl, Nat.le_of_ble_eq_true rfl⟩) hE (gSub hP [0, 1]) (gDSub hD [0, 1] rfl) 0 1 rfl rfl rfl rfl rfl hl.1 rfl (lv_room (Nat.le_of_ble_eq_true rfl)) dJ5_append_c97b9_14 ⟨Nat.le_of_ble_eq_true rfl, Nat.le_of_ble_eq_true rfl⟩) hP hD hS hA [0, 1] rfl rfl rfl (fun H locs hw hP hD hS => ?_)
  have hP : va_P g.1 vwCl (List.flatten [kSO g a_sb b_at b_ml b_count, kBa g b_at b_cap b_bytes]) H := hP
  have hD : va_D A (List.flatten [kSO g a_sb b_at b_ml b_count, kBa g b_at b_cap b_bytes]) := hD
  refine lv_aload_n hx hb dJ5_append_c97b9_17 rfl (lv_at hl 2 rfl) ?_
  refine gCi0 (gRunUX (As := []) (rest := []) ⟨hx, hb, hml, hown, hts⟩ (ctJ5_isLatin1_aae02 l g t a_sb b_at _ b_ml b_count hw) (va_cwU 0 hts gJ5_append_c97b9_J5_isLatin1_aae02_u83J4 rfl rfl rfl rfl (by decide +kernel) ⟨Nat.le_of_ble_eq_true rfl, Nat.le_of_ble_eq_true rfl⟩) hE hX hS (gFree hD hS hA [0]) (gSub hP [0]) (gDSub hD [0] rfl) 0 1 rfl rfl rfl rfl rfl hl.1 rfl (lv_room (Nat.le_of_ble_eq_true rfl)) dJ5_append_c97b9_18 ⟨Nat.le_of_ble_eq_true rfl, Nat.le_of_ble_eq_true rfl⟩) hP hD hS hA [0] rfl rfl rfl (fun r3 H locs hw hP hD hS => ?_)
  have hP : va_P g.1 vwCl (List.flatten [kSO g a_sb b_at b_ml b_count, kBa g b_at b_cap b_bytes]) H := hP
  have hD : va_D A (List.flatten [kSO g a_sb b_at b_ml b_count, kBa g b_at b_cap b_bytes]) := hD
  refine lv_if_eq (tgt := 37) hx hb dJ5_append_c97b9_21 (by decide) (fun c_21 => (hw.1 c_21).elim) (fun c_21 => ?_)
  have hw := hw.2 c_21
  refine lv_iload_n hx hb dJ5_append_c97b9_24 rfl (lv_at hl 3 rfl) ?_
  refine lv_iload_n hx hb dJ5_append_c97b9_25 rfl (lv_at hl 0 rfl) ?_
  refine lv_aload_n hx hb dJ5_append_c97b9_26 rfl (lv_at hl 2 rfl) ?_
  refine va_get (D := g.1) (ci := 1) (v := .ref (b_at 0)) (C := RJ4) (T := TJ4) (N := 4) hx hb hts inJ5_append_c97b9_J4 hown hE.1 hP 0 rfl rfl 0 (by decide) (gW hts 2 (.fieldLink RJ5 15 "java/lang/AbstractStringBuilder" "value" "[B") rfl) (fun _ h9 => h9) rfl dJ5_append_c97b9_27 ?_
  refine gCi1 (gRunSX (As := [.int x1, .int (b_count + r1), .ref (b_at 0)]) (rest := []) ⟨hx, hb, hml, hown, hts⟩ (ctJ6_getChars_ba4f3 l g t _ b_at b_cap b_bytes x1 (b_count + r1) hw) (va_cwS 3 hts gJ5_append_c97b9_J6_getChars_ba4f3 rfl rfl rfl (by decide +kernel) ⟨Nat.le_of_ble_eq_true rfl, Nat.le_of_ble_eq_true rfl⟩) hE hX hS (gFree hD hS hA [1]) (gSub hP [1]) (gDSub hD [1] rfl) rfl rfl hl.1 rfl (lv_room (Nat.le_of_ble_eq_true rfl)) dJ5_append_c97b9_30 ⟨Nat.le_of_ble_eq_true rfl, Nat.le_of_ble_eq_true rfl⟩) hP hD hS hA [1] rfl (fun _ => rfl) rfl (fun r4 b_bytes_v4 H locs hw hP hD hS => ?_)
  have hP : va_P g.1 vwCl (List.flatten [kSO g a_sb b_at b_ml b_count, kBa g b_at b_cap b_bytes_v4]) H := hP
  have hD : va_D A (List.flatten [kSO g a_sb b_at b_ml b_count, kBa g b_at b_cap b_bytes_v4]) := hD
  refine lv_pop hx hb dJ5_append_c97b9_33 rfl ?_
  refine lv_goto (tgt := 48) hx hb dJ5_append_c97b9_34 (by decide) ?_
  refine lv_aload_n hx hb dJ5_append_c97b9_48 rfl (lv_at hl 2 rfl) ?_
  refine lv_iload_n hx hb dJ5_append_c97b9_49 rfl (lv_at hl 0 rfl) ?_
  refine va_put (D := g.1) (ci := 1) (v := .int (b_count + r1)) (ty := .int) (C := RJ4) (T := TJ4) (N := 4) hx hb hts inJ5_append_c97b9_J4 tyJ4 tyJ4_ok nmJ4 hown hE.1 hP hD hS 0 rfl rfl 3 (by decide) (gW hts 1 (.fieldLink RJ5 79 "java/lang/AbstractStringBuilder" "count" "I") rfl) (fun _ h9 => h9) rfl (by decide +kernel) rfl rfl (Nat.le_of_ble_eq_true rfl) dJ5_append_c97b9_50 (fun H locs hP hD hS => ?_)
  have hP : va_P g.1 vwCl (List.flatten [kSO g a_sb b_at b_ml (b_count + r1), kBa g b_at b_cap b_bytes_v4]) H := hP
  have hD : va_D A (List.flatten [kSO g a_sb b_at b_ml (b_count + r1), kBa g b_at b_cap b_bytes_v4]) := hD
  refine lv_aload_n hx hb dJ5_append_c97b9_53 rfl (lv_at hl 2 rfl) ?_
  subst hQ
  exact W.aret hx hb hr (Or.inl ⟨_, rfl⟩) (Or.inr ⟨_, rfl⟩) (gRr2 (c1 := (b_count + r1)) (c2 := b_bytes_v4) (wf := _) hA0 hsz hw hP hD hS) hS.2.2 dJ5_append_c97b9_54
abbrev rmJ4_append_bf812 : Room := { frames := 3, cells := 0, slots := 0, locals := 151 }
set_option maxRecDepth 20000 in
theorem inJ4_append_bf812_J4 : ∀ w ∈ wsJ40, w ∈ wsJ4_append_bf812 := by decide +kernel
set_option maxHeartbeats 4000000 in
set_option maxRecDepth 100000 in
theorem ctJ4_append_bf812 (l : Launch) (g : GG) (t : GT) (a_sb : Nat → Nat) (sz : Nat) (b_ml : Int32) (b_count : Int32) (b_at : Nat → Nat) (b_cap : Nat) (b_bytes : Nat → Int32) (x1 : Int32) {post : Int32 → (Nat → Int32) → Prop} (hw : wpJ4_append_bf812 x1 b_count b_cap b_bytes post) :
    Met l yJ4_append_bf812 wsJ4_append_bf812 rmJ4_append_bf812 (gPX g t sz (List.flatten [kSO g a_sb b_at b_ml b_count, kBa g b_at b_cap b_bytes]) [.ref (a_sb 0), .int x1]) (gQr2 post (fun u1 u2 => gB g (List.flatten [kSO g a_sb b_at b_ml b_count, kBa g b_at b_cap b_bytes]) sz (List.flatten [kSO g a_sb b_at b_ml u1, kBa g b_at b_cap u2])) (va_A (List.flatten [kSO g a_sb b_at b_ml b_count, kBa g b_at b_cap b_bytes]) sz)) 0 0 (va_A (List.flatten [kSO g a_sb b_at b_ml b_count, kBa g b_at b_cap b_bytes]) sz) := by
  refine gOfX (cc := cJ4_append_bf812) (maxL := 2) (ret := (some (.object "java/lang/StringBuilder"))) (by decide) rfl (Nat.le_of_ble_eq_true rfl) ?_
  intro p e s m below meth c ls Q A hQ hx hb hr hml hts hown hlocks hE hA0 hsz hP hD hA hS hl hX
  have hl : lv_has ls 2 [(0, .ref (a_sb 0)), (1, .int x1)] := hl
  refine lv_aload_n hx hb dJ4_append_bf812_0 rfl (lv_at hl 0 rfl) ?_
  refine lv_iload_n hx hb dJ4_append_bf812_1 rfl (lv_at hl 1 rfl) ?_
  refine gCr2 (gRunSUX (As := [.int x1]) (rest := []) ⟨hx, hb, hml, hown, hts⟩ (ctJ5_append_c97b9 l g t a_sb _ b_ml b_count b_at b_cap b_bytes x1 hw) (va_cwSU 1 hts gJ4_append_bf812_J5_append_c97b9_s53 rfl rfl rfl (by decide +kernel) ⟨Nat.le_of_ble_eq_true rfl, Nat.le_of_ble_eq_true rfl⟩) hE hX hS (gFree hD hS hA [0, 1]) (gSub hP [0, 1]) (gDSub hD [0, 1] rfl) 0 1 rfl rfl rfl rfl rfl hl.1 rfl (lv_room (Nat.le_of_ble_eq_true rfl)) dJ4_append_bf812_2 ⟨Nat.le_of_ble_eq_true rfl, Nat.le_of_ble_eq_true rfl⟩) hP hD hS hA [0, 1] rfl (fun _ _ => rfl) rfl (fun ra1 b_count_v1 b_bytes_v1 H locs hw hP hD hS => ?_)
  have hP : va_P g.1 vwCl (List.flatten [kSO g a_sb b_at b_ml b_count_v1, kBa g b_at b_cap b_bytes_v1]) H := hP
  have hD : va_D A (List.flatten [kSO g a_sb b_at b_ml b_count_v1, kBa g b_at b_cap b_bytes_v1]) := hD
  refine lv_pop hx hb dJ4_append_bf812_5 rfl ?_
  refine lv_aload_n hx hb dJ4_append_bf812_6 rfl (lv_at hl 0 rfl) ?_
  subst hQ
  exact W.aret hx hb hr (Or.inl ⟨_, rfl⟩) (Or.inr ⟨_, rfl⟩) (gRr2 (c1 := b_count_v1) (c2 := b_bytes_v1) (wf := _) hA0 hsz hw hP hD hS) hS.2.2 dJ4_append_bf812_7
abbrev rmJ0_coder_7d493 : Room := { frames := 1, cells := 0, slots := 0, locals := 100 }
set_option maxHeartbeats 4000000 in
set_option maxRecDepth 100000 in
theorem ctJ0_coder_7d493 (l : Launch) (g : GG) (t : GT) (sz : Nat) (k_su : Nat) (su_len : Nat) (su_txt : Nat → Int32) (hk_su : gIs k_su su_len su_txt) {post : Int32 → Prop} (hw : wpJ0_coder_7d493 post) :
    Met l yJ0_coder_7d493 wsJ0_coder_7d493 rmJ0_coder_7d493 (gPX g t sz (List.flatten []) [.ref (t.1 k_su)]) (gQi0 post (gB g (List.flatten []) sz (List.flatten [])) (va_A (List.flatten []) sz)) 0 0 (va_A (List.flatten []) sz) := by
  refine gOfX (cc := cJ0_coder_7d493) (maxL := 1) (ret := (some .byte)) (by decide) rfl (Nat.le_of_ble_eq_true rfl) ?_
  intro p e s m below meth c ls Q A hQ hx hb hr hml hts hown hlocks hE hA0 hsz hP hD hA hS hl hX
  have hz_su := hX.str hk_su
  have hl : lv_has ls 1 [(0, .ref (t.1 k_su))] := hl
  refine va_gets hx hb (hX.1.2.2.2.1) hS hown (gW hts 1 (.fieldLink RJ0 38 "java/lang/String" "COMPACT_STRINGS" "Z") rfl) (fun _ h9 => h9) dJ0_coder_7d493_0 ?_
  refine lv_if_eq (tgt := 13) hx hb dJ0_coder_7d493_3 (by decide) (fun c_3 => absurd c_3 (by decide)) (fun c_3 => ?_)
  refine lv_aload_n hx hb dJ0_coder_7d493_6 rfl (lv_at hl 0 rfl) ?_
  refine vk_getf hx hb (hz_su.2.1) hS hown (gW hts 2 (.fieldLink RJ0 15 "java/lang/String" "coder" "B") rfl) (fun _ h9 => h9) dJ0_coder_7d493_7 ?_
  refine lv_goto (tgt := 14) hx hb dJ0_coder_7d493_10 (by decide) ?_
  subst hQ
  exact W.zret (ty := .byte) hx hb hr (by decide) (gRi0 (wf := _) hA0 hsz hw hP hD hS) hS.2.2 dJ0_coder_7d493_14
abbrev rmJ0_length_8abf5 : Room := { frames := 2, cells := 0, slots := 0, locals := 121 }
set_option maxHeartbeats 4000000 in
set_option maxRecDepth 100000 in
theorem ctJ0_length_8abf5 (l : Launch) (g : GG) (t : GT) (sz : Nat) (k_su : Nat) (su_len : Nat) (su_txt : Nat → Int32) (hk_su : gIs k_su su_len su_txt) {post : Int32 → Prop} (hw : wpJ0_length_8abf5 su_len post) :
    Met l yJ0_length_8abf5 wsJ0_length_8abf5 rmJ0_length_8abf5 (gPX g t sz (List.flatten []) [.ref (t.1 k_su)]) (gQi0 post (gB g (List.flatten []) sz (List.flatten [])) (va_A (List.flatten []) sz)) 0 0 (va_A (List.flatten []) sz) := by
  refine gOfX (cc := cJ0_length_8abf5) (maxL := 1) (ret := (some .int)) (by decide) rfl (Nat.le_of_ble_eq_true rfl) ?_
  intro p e s m below meth c ls Q A hQ hx hb hr hml hts hown hlocks hE hA0 hsz hP hD hA hS hl hX
  have hz_su := hX.str hk_su
  have hl : lv_has ls 1 [(0, .ref (t.1 k_su))] := hl
  refine lv_aload_n hx hb dJ0_length_8abf5_0 rfl (lv_at hl 0 rfl) ?_
  refine vk_getf hx hb (hz_su.2.2.1) hS hown (gW hts 1 (.fieldLink RJ0 9 "java/lang/String" "value" "[B") rfl) (fun _ h9 => h9) dJ0_length_8abf5_1 ?_
  refine va_tlen hx hb hz_su.2.2.2 hS rfl dJ0_length_8abf5_4 ?_
  refine lv_aload_n hx hb dJ0_length_8abf5_5 rfl (lv_at hl 0 rfl) ?_
  refine gCi0 (gRunVr (As := []) (rest := [.int (nI su_len)]) ⟨hx, hb, hml, hown, hts⟩ (ctJ0_coder_7d493 l g t _ k_su su_len su_txt hk_su hw) (cwV 0 hts gJ0_length_8abf5_J0_coder_7d493 rfl rfl rfl (by decide +kernel) ⟨Nat.le_of_ble_eq_true rfl, Nat.le_of_ble_eq_true rfl⟩) hE hX hS (gFree hD hS hA []) (gSub hP []) (gDSub hD [] rfl) (hz_su.recv hS) rfl rfl hl.1 rfl (lv_room (Nat.le_of_ble_eq_true rfl)) dJ0_length_8abf5_6 ⟨Nat.le_of_ble_eq_true rfl, Nat.le_of_ble_eq_true rfl⟩) hP hD hS hA [] rfl rfl rfl (fun r1 H locs hw hP hD hS => ?_)
  have hP : va_P g.1 vwCl (List.flatten []) H := hP
  have hD : va_D A (List.flatten []) := hD
  refine lv_ishr hx hb dJ0_length_8abf5_9 ?_
  subst hQ
  exact W.iret hx hb hr (gRi0 (wf := _) hA0 hsz hw hP hD hS) hS.2.2 dJ0_length_8abf5_10
abbrev rmJ5_inflateIfNeededFor_a7421 : Room := { frames := 2, cells := 0, slots := 0, locals := 121 }
set_option maxRecDepth 20000 in
theorem inJ5_inflateIfNeededFor_a7421_J4 : ∀ w ∈ wsJ40, w ∈ wsJ5_inflateIfNeededFor_a7421 := by decide +kernel
set_option maxHeartbeats 4000000 in
set_option maxRecDepth 100000 in
theorem ctJ5_inflateIfNeededFor_a7421 (l : Launch) (g : GG) (t : GT) (a_sb : Nat → Nat) (b_at : Nat → Nat) (sz : Nat) (b_ml : Int32) (b_count : Int32) (k_su : Nat) (su_len : Nat) (su_txt : Nat → Int32) (hk_su : gIs k_su su_len su_txt) {post : Prop} (hw : wpJ5_inflateIfNeededFor_a7421 post) :
    Met l yJ5_inflateIfNeededFor_a7421 wsJ5_inflateIfNeededFor_a7421 rmJ5_inflateIfNeededFor_a7421 (gPX g t sz (List.flatten [kSO g a_sb b_at b_ml b_count]) [.ref (a_sb 0), .ref (t.1 k_su)]) (gQv0 post (gB g (List.flatten [kSO g a_sb b_at b_ml b_count]) sz (List.flatten [kSO g a_sb b_at b_ml b_count])) (va_A (List.flatten [kSO g a_sb b_at b_ml b_count]) sz)) 0 0 (va_A (List.flatten [kSO g a_sb b_at b_ml b_count]) sz) := by
  refine gOfX (cc := cJ5_inflateIfNeededFor_a7421) (maxL := 2) (ret := none) (by decide) rfl (Nat.le_of_ble_eq_true rfl) ?_
  intro p e s m below meth c ls Q A hQ hx hb hr hml hts hown hlocks hE hA0 hsz hP hD hA hS hl hX
  have hz_su := hX.str hk_su
  have hl : lv_has ls 2 [(0, .ref (a_sb 0)), (1, .ref (t.1 k_su))] := hl
  refine va_gets hx hb (hX.1.2.2.2.1) hS hown (gW hts 1 (.fieldLink RJ5 18 "java/lang/String" "COMPACT_STRINGS" "Z") rfl) (fun _ h9 => h9) dJ5_inflateIfNeededFor_a7421_0 ?_
  refine lv_if_eq (tgt := 21) hx hb dJ5_inflateIfNeededFor_a7421_3 (by decide) (fun c_3 => absurd c_3 (by decide)) (fun c_3 => ?_)
  refine lv_aload_n hx hb dJ5_inflateIfNeededFor_a7421_6 rfl (lv_at hl 0 rfl) ?_
  refine va_get (D := g.1) (ci := 1) (v := .int 0) (C := RJ4) (T := TJ4) (N := 4) hx hb hts inJ5_inflateIfNeededFor_a7421_J4 hown hE.1 hP 0 rfl rfl 1 (by decide) (gW hts 2 (.fieldLink RJ5 22 "java/lang/AbstractStringBuilder" "coder" "B") rfl) (fun _ h9 => h9) rfl dJ5_inflateIfNeededFor_a7421_7 ?_
  refine lv_aload_n hx hb dJ5_inflateIfNeededFor_a7421_10 rfl (lv_at hl 1 rfl) ?_
  refine gCi0 (gRunVr (As := []) (rest := [.int 0]) ⟨hx, hb, hml, hown, hts⟩ (ctJ0_coder_7d493 l g t _ k_su su_len su_txt hk_su hw) (cwV 0 hts gJ5_inflateIfNeededFor_a7421_J0_coder_7d493 rfl rfl rfl (by decide +kernel) ⟨Nat.le_of_ble_eq_true rfl, Nat.le_of_ble_eq_true rfl⟩) hE hX hS (gFree hD hS hA []) (gSub hP []) (gDSub hD [] rfl) (hz_su.recv hS) rfl rfl hl.1 rfl (lv_room (Nat.le_of_ble_eq_true rfl)) dJ5_inflateIfNeededFor_a7421_11 ⟨Nat.le_of_ble_eq_true rfl, Nat.le_of_ble_eq_true rfl⟩) hP hD hS hA [] rfl rfl rfl (fun r1 H locs hw hP hD hS => ?_)
  have hP : va_P g.1 vwCl (List.flatten [kSO g a_sb b_at b_ml b_count]) H := hP
  have hD : va_D A (List.flatten [kSO g a_sb b_at b_ml b_count]) := hD
  refine lv_icmp_eq (tgt := 21) hx hb dJ5_inflateIfNeededFor_a7421_14 (by decide) (fun c_14 => ?_) (fun c_14 => (hw.2 c_14).elim)
  have hw := hw.1 c_14
  subst hQ
  exact W.vret hx hb hr (gRv0 (wf := _) hA0 hsz hw hP hD hS) hS.2.2 dJ5_inflateIfNeededFor_a7421_21
abbrev rmJ0_getBytes_840e7 : Room := { frames := 2, cells := 0, slots := 0, locals := 121 }
set_option maxHeartbeats 4000000 in
set_option maxRecDepth 100000 in
theorem ctJ0_getBytes_840e7 (l : Launch) (g : GG) (t : GT) (sz : Nat) (b_at : Nat → Nat) (b_cap : Nat) (b_bytes : Nat → Int32) (k_su : Nat) (su_len : Nat) (su_txt : Nat → Int32) (hk_su : gIs k_su su_len su_txt) (x2 : Int32) (x3 : Int32) {post : (Nat → Int32) → Prop} (hw : wpJ0_getBytes_840e7 x2 x3 su_len su_txt b_cap b_bytes post) :
    Met l yJ0_getBytes_840e7 wsJ0_getBytes_840e7 rmJ0_getBytes_840e7 (gPX g t sz (List.flatten [kBa g b_at b_cap b_bytes]) [.ref (t.1 k_su), .ref (b_at 0), .int x2, .int x3]) (gQv1 post (fun u1 => gB g (List.flatten [kBa g b_at b_cap b_bytes]) sz (List.flatten [kBa g b_at b_cap u1])) (va_A (List.flatten [kBa g b_at b_cap b_bytes]) sz)) 0 0 (va_A (List.flatten [kBa g b_at b_cap b_bytes]) sz) := by
  refine gOfX (cc := cJ0_getBytes_840e7) (maxL := 4) (ret := none) (by decide) rfl (Nat.le_of_ble_eq_true rfl) ?_
  intro p e s m below meth c ls Q A hQ hx hb hr hml hts hown hlocks hE hA0 hsz hP hD hA hS hl hX
  have hz_su := hX.str hk_su
  have hl : lv_has ls 4 [(0, .ref (t.1 k_su)), (1, .ref (b_at 0)), (2, .int x2), (3, .int x3)] := hl
  refine lv_aload_n hx hb dJ0_getBytes_840e7_0 rfl (lv_at hl 0 rfl) ?_
  refine gCi0 (gRunVr (As := []) (rest := []) ⟨hx, hb, hml, hown, hts⟩ (ctJ0_coder_7d493 l g t _ k_su su_len su_txt hk_su hw) (cwV 0 hts gJ0_getBytes_840e7_J0_coder_7d493 rfl rfl rfl (by decide +kernel) ⟨Nat.le_of_ble_eq_true rfl, Nat.le_of_ble_eq_true rfl⟩) hE hX hS (gFree hD hS hA []) (gSub hP []) (gDSub hD [] rfl) (hz_su.recv hS) rfl rfl hl.1 rfl (lv_room (Nat.le_of_ble_eq_true rfl)) dJ0_getBytes_840e7_1 ⟨Nat.le_of_ble_eq_true rfl, Nat.le_of_ble_eq_true rfl⟩) hP hD hS hA [] rfl rfl rfl (fun r1 H locs hw hP hD hS => ?_)
  have hP : va_P g.1 vwCl (List.flatten [kBa g b_at b_cap b_bytes]) H := hP
  have hD : va_D A (List.flatten [kBa g b_at b_cap b_bytes]) := hD
  refine lv_iload_n hx hb dJ0_getBytes_840e7_4 rfl (lv_at hl 3 rfl) ?_
  refine lv_icmp_ne (tgt := 28) hx hb dJ0_getBytes_840e7_5 (by decide) (fun c_5 => (hw.1 c_5).elim) (fun c_5 => ?_)
  have hw := hw.2 c_5
  refine lv_aload_n hx hb dJ0_getBytes_840e7_8 rfl (lv_at hl 0 rfl) ?_
  refine vk_getf hx hb (hz_su.2.2.1) hS hown (gW hts 1 (.fieldLink RJ0 9 "java/lang/String" "value" "[B") rfl) (fun _ h9 => h9) dJ0_getBytes_840e7_9 ?_
  refine lv_iconst (v := 0) hx hb dJ0_getBytes_840e7_12 (by decide) ?_
  refine lv_aload_n hx hb dJ0_getBytes_840e7_13 rfl (lv_at hl 1 rfl) ?_
  refine lv_iload_n hx hb dJ0_getBytes_840e7_14 rfl (lv_at hl 2 rfl) ?_
  refine lv_iload_n hx hb dJ0_getBytes_840e7_15 rfl (lv_at hl 3 rfl) ?_
  refine lv_ishl hx hb dJ0_getBytes_840e7_16 ?_
  refine lv_aload_n hx hb dJ0_getBytes_840e7_17 rfl (lv_at hl 0 rfl) ?_
  refine vk_getf hx hb (hz_su.2.2.1) hS hown (gW hts 1 (.fieldLink RJ0 9 "java/lang/String" "value" "[B") rfl) (fun _ h9 => h9) dJ0_getBytes_840e7_18 ?_
  refine va_tlen hx hb hz_su.2.2.2 hS rfl dJ0_getBytes_840e7_21 ?_
  have h2 := hw.1
  have hw := hw.2
  have h3 := hw.1
  have hw := hw.2
  have h4 := hw.1
  have hw := hw.2
  have h5 := hw.1
  have hw := hw.2
  have h6 := hw.1
  have hw := hw.2
  refine vk_copyt hx hb (hml.trans hl.1.symm) hown (gW hts 2 (.methodLink RJ0 212 arraycopyName) rfl) (gW hts 3 (.native arraycopyName) rfl) (gW hts 4 (.static arraycopyName) rfl) (gW hts 5 (.initialized "java/lang/System") rfl) hE.1 hP hD hS hz_su.2.2.2 0 3 rfl rfl (by decide) h2 h3 h4 h5 h6 (Nat.le_of_ble_eq_true rfl) (by decide +kernel) dJ0_getBytes_840e7_22 (fun H locs hP hD hS => ?_)
  have hP : va_P g.1 vwCl (List.flatten [kBa g b_at b_cap (va_cpy su_txt b_bytes 0 (x2 <<< (x3 &&& 31)).toNatClampNeg (nI su_len).toNatClampNeg)]) H := hP
  have hD : va_D A (List.flatten [kBa g b_at b_cap (va_cpy su_txt b_bytes 0 (x2 <<< (x3 &&& 31)).toNatClampNeg (nI su_len).toNatClampNeg)]) := hD
  refine lv_goto (tgt := 43) hx hb dJ0_getBytes_840e7_25 (by decide) ?_
  subst hQ
  exact W.vret hx hb hr (gRv1 (c1 := (va_cpy su_txt b_bytes 0 (x2 <<< (x3 &&& 31)).toNatClampNeg (nI su_len).toNatClampNeg)) (wf := _) hA0 hsz hw hP hD hS) hS.2.2 dJ0_getBytes_840e7_43
abbrev rmJ5_putStringAt_47b60 : Room := { frames := 3, cells := 0, slots := 0, locals := 145 }
set_option maxRecDepth 20000 in
theorem inJ5_putStringAt_47b60_J4 : ∀ w ∈ wsJ40, w ∈ wsJ5_putStringAt_47b60 := by decide +kernel
set_option maxHeartbeats 4000000 in
set_option maxRecDepth 100000 in
theorem ctJ5_putStringAt_47b60 (l : Launch) (g : GG) (t : GT) (a_sb : Nat → Nat) (sz : Nat) (b_ml : Int32) (b_count : Int32) (b_at : Nat → Nat) (b_cap : Nat) (b_bytes : Nat → Int32) (k_su : Nat) (su_len : Nat) (su_txt : Nat → Int32) (hk_su : gIs k_su su_len su_txt) (x1 : Int32) {post : (Nat → Int32) → Prop} (hw : wpJ5_putStringAt_47b60 x1 su_len su_txt b_cap b_bytes post) :
    Met l yJ5_putStringAt_47b60 wsJ5_putStringAt_47b60 rmJ5_putStringAt_47b60 (gPX g t sz (List.flatten [kSO g a_sb b_at b_ml b_count, kBa g b_at b_cap b_bytes]) [.ref (a_sb 0), .int x1, .ref (t.1 k_su)]) (gQv1 post (fun u1 => gB g (List.flatten [kSO g a_sb b_at b_ml b_count, kBa g b_at b_cap b_bytes]) sz (List.flatten [kSO g a_sb b_at b_ml b_count, kBa g b_at b_cap u1])) (va_A (List.flatten [kSO g a_sb b_at b_ml b_count, kBa g b_at b_cap b_bytes]) sz)) 0 0 (va_A (List.flatten [kSO g a_sb b_at b_ml b_count, kBa g b_at b_cap b_bytes]) sz) := by
  refine gOfX (cc := cJ5_putStringAt_47b60) (maxL := 3) (ret := none) (by decide) rfl (Nat.le_of_ble_eq_true rfl) ?_
  intro p e s m below meth c ls Q A hQ hx hb hr hml hts hown hlocks hE hA0 hsz hP hD hA hS hl hX
  have hz_su := hX.str hk_su
  have hl : lv_has ls 3 [(0, .ref (a_sb 0)), (1, .int x1), (2, .ref (t.1 k_su))] := hl
  refine lv_aload_n hx hb dJ5_putStringAt_47b60_0 rfl (lv_at hl 0 rfl) ?_
  refine lv_aload_n hx hb dJ5_putStringAt_47b60_1 rfl (lv_at hl 2 rfl) ?_
  refine gCv0 (gRunUX (As := [.ref (t.1 k_su)]) (rest := []) ⟨hx, hb, hml, hown, hts⟩ (ctJ5_inflateIfNeededFor_a7421 l g t a_sb b_at _ b_ml b_count k_su su_len su_txt hk_su hw) (va_cwU 1 hts gJ5_putStringAt_47b60_J5_inflateIfNeededFor_a7421_u397J4 rfl rfl rfl rfl (by decide +kernel) ⟨Nat.le_of_ble_eq_true rfl, Nat.le_of_ble_eq_true rfl⟩) hE hX hS (gFree hD hS hA [0]) (gSub hP [0]) (gDSub hD [0] rfl) 0 1 rfl rfl rfl rfl rfl hl.1 rfl (lv_room (Nat.le_of_ble_eq_true rfl)) dJ5_putStringAt_47b60_2 ⟨Nat.le_of_ble_eq_true rfl, Nat.le_of_ble_eq_true rfl⟩) hP hD hS hA [0] rfl rfl rfl (fun H locs hw hP hD hS => ?_)
  have hP : va_P g.1 vwCl (List.flatten [kSO g a_sb b_at b_ml b_count, kBa g b_at b_cap b_bytes]) H := hP
  have hD : va_D A (List.flatten [kSO g a_sb b_at b_ml b_count, kBa g b_at b_cap b_bytes]) := hD
  refine lv_aload_n hx hb dJ5_putStringAt_47b60_5 rfl (lv_at hl 2 rfl) ?_
  refine lv_aload_n hx hb dJ5_putStringAt_47b60_6 rfl (lv_at hl 0 rfl) ?_
  refine va_get (D := g.1) (ci := 1) (v := .ref (b_at 0)) (C := RJ4) (T := TJ4) (N := 4) hx hb hts inJ5_putStringAt_47b60_J4 hown hE.1 hP 0 rfl rfl 0 (by decide) (gW hts 1 (.fieldLink RJ5 15 "java/lang/AbstractStringBuilder" "value" "[B") rfl) (fun _ h9 => h9) rfl dJ5_putStringAt_47b60_7 ?_
  refine lv_iload_n hx hb dJ5_putStringAt_47b60_10 rfl (lv_at hl 1 rfl) ?_
  refine lv_aload_n hx hb dJ5_putStringAt_47b60_11 rfl (lv_at hl 0 rfl) ?_
  refine va_get (D := g.1) (ci := 1) (v := .int 0) (C := RJ4) (T := TJ4) (N := 4) hx hb hts inJ5_putStringAt_47b60_J4 hown hE.1 hP 0 rfl rfl 1 (by decide) (gW hts 2 (.fieldLink RJ5 22 "java/lang/AbstractStringBuilder" "coder" "B") rfl) (fun _ h9 => h9) rfl dJ5_putStringAt_47b60_12 ?_
  refine gCv1 (gRunVr (As := [.ref (b_at 0), .int x1, .int 0]) (rest := []) ⟨hx, hb, hml, hown, hts⟩ (ctJ0_getBytes_840e7 l g t _ b_at b_cap b_bytes k_su su_len su_txt hk_su x1 0 hw) (cwV 3 hts gJ5_putStringAt_47b60_J0_getBytes_840e7 rfl rfl rfl (by decide +kernel) ⟨Nat.le_of_ble_eq_true rfl, Nat.le_of_ble_eq_true rfl⟩) hE hX hS (gFree hD hS hA [1]) (gSub hP [1]) (gDSub hD [1] rfl) (hz_su.recv hS) rfl rfl hl.1 rfl (lv_room (Nat.le_of_ble_eq_true rfl)) dJ5_putStringAt_47b60_15 ⟨Nat.le_of_ble_eq_true rfl, Nat.le_of_ble_eq_true rfl⟩) hP hD hS hA [1] rfl (fun _ => rfl) rfl (fun b_bytes_v2 H locs hw hP hD hS => ?_)
  have hP : va_P g.1 vwCl (List.flatten [kSO g a_sb b_at b_ml b_count, kBa g b_at b_cap b_bytes_v2]) H := hP
  have hD : va_D A (List.flatten [kSO g a_sb b_at b_ml b_count, kBa g b_at b_cap b_bytes_v2]) := hD
  subst hQ
  exact W.vret hx hb hr (gRv1 (c1 := b_bytes_v2) (wf := _) hA0 hsz hw hP hD hS) hS.2.2 dJ5_putStringAt_47b60_18
abbrev rmJ5_append_cf1ce : Room := { frames := 4, cells := 0, slots := 0, locals := 168 }
set_option maxRecDepth 20000 in
theorem inJ5_append_cf1ce_J4 : ∀ w ∈ wsJ40, w ∈ wsJ5_append_cf1ce := by decide +kernel
set_option maxHeartbeats 4000000 in
set_option maxRecDepth 100000 in
theorem ctJ5_append_cf1ce (l : Launch) (g : GG) (t : GT) (a_sb : Nat → Nat) (sz : Nat) (b_ml : Int32) (b_count : Int32) (b_at : Nat → Nat) (b_cap : Nat) (b_bytes : Nat → Int32) (k_su : Nat) (su_len : Nat) (su_txt : Nat → Int32) (hk_su : gIs k_su su_len su_txt) {post : Int32 → (Nat → Int32) → Prop} (hw : wpJ5_append_cf1ce su_len su_txt b_count b_cap b_bytes post) :
    Met l yJ5_append_cf1ce wsJ5_append_cf1ce rmJ5_append_cf1ce (gPX g t sz (List.flatten [kSO g a_sb b_at b_ml b_count, kBa g b_at b_cap b_bytes]) [.ref (a_sb 0), .ref (t.1 k_su)]) (gQr2 post (fun u1 u2 => gB g (List.flatten [kSO g a_sb b_at b_ml b_count, kBa g b_at b_cap b_bytes]) sz (List.flatten [kSO g a_sb b_at b_ml u1, kBa g b_at b_cap u2])) (va_A (List.flatten [kSO g a_sb b_at b_ml b_count, kBa g b_at b_cap b_bytes]) sz)) 0 0 (va_A (List.flatten [kSO g a_sb b_at b_ml b_count, kBa g b_at b_cap b_bytes]) sz) := by
  refine gOfX (cc := cJ5_append_cf1ce) (maxL := 3) (ret := (some (.object "java/lang/AbstractStringBuilder"))) (by decide) rfl (Nat.le_of_ble_eq_true rfl) ?_
  intro p e s m below meth c ls Q A hQ hx hb hr hml hts hown hlocks hE hA0 hsz hP hD hA hS hl hX
  have hz_su := hX.str hk_su
  have hl : lv_has ls 3 [(0, .ref (a_sb 0)), (1, .ref (t.1 k_su))] := hl
  refine lv_aload_n hx hb dJ5_append_cf1ce_0 rfl (lv_at hl 1 rfl) ?_
  refine lv_ifnonnull (tgt := 9) hx hb dJ5_append_cf1ce_1 (by decide) ?_
  refine lv_aload_n hx hb dJ5_append_cf1ce_9 rfl (lv_at hl 1 rfl) ?_
  refine gCi0 (gRunVr (As := []) (rest := []) ⟨hx, hb, hml, hown, hts⟩ (ctJ0_length_8abf5 l g t _ k_su su_len su_txt hk_su hw) (cwV 0 hts gJ5_append_cf1ce_J0_length_8abf5 rfl rfl rfl (by decide +kernel) ⟨Nat.le_of_ble_eq_true rfl, Nat.le_of_ble_eq_true rfl⟩) hE hX hS (gFree hD hS hA []) (gSub hP []) (gDSub hD [] rfl) (hz_su.recv hS) rfl rfl hl.1 rfl (lv_room (Nat.le_of_ble_eq_true rfl)) dJ5_append_cf1ce_10 ⟨Nat.le_of_ble_eq_true rfl, Nat.le_of_ble_eq_true rfl⟩) hP hD hS hA [] rfl rfl rfl (fun r1 H locs hw hP hD hS => ?_)
  have hP : va_P g.1 vwCl (List.flatten [kSO g a_sb b_at b_ml b_count, kBa g b_at b_cap b_bytes]) H := hP
  have hD : va_D A (List.flatten [kSO g a_sb b_at b_ml b_count, kBa g b_at b_cap b_bytes]) := hD
  refine lv_istore_n (lv' := [(2, .int r1), (0, .ref (a_sb 0)), (1, .ref (t.1 k_su))]) hx hb dJ5_append_cf1ce_13 rfl hl (by decide) rfl (fun ls hl => ?_)
  refine lv_aload_n hx hb dJ5_append_cf1ce_14 rfl (lv_at hl 1 rfl) ?_
  refine lv_aload_n hx hb dJ5_append_cf1ce_15 rfl (lv_at hl 1 rfl) ?_
  refine va_get (D := g.1) (ci := 1) (v := .int b_count) (C := RJ4) (T := TJ4) (N := 4) hx hb hts inJ5_append_cf1ce_J4 hown hE.1 hP 0 rfl rfl 3 (by decide) (gW hts 1 (.fieldLink RJ5 79 "java/lang/AbstractStringBuilder" "count" "I") rfl) (fun _ h9 => h9) rfl dJ5_append_cf1ce_16 ?_
  refine lv_iload_n hx hb dJ5_append_cf1ce_19 rfl (lv_at hl 0 rfl) ?_
  refine lv_iadd hx hb dJ5_append_cf1ce_20 ?_
  refine gCv0 (gRunU (As := [.int (b_count + r1)]) (rest := []) ⟨hx, hb, hml, hown, hts⟩ (ctJ5_ensureCapacityInternal_d00df l g a_sb _ b_ml b_count b_at b_cap b_bytes (b_count + r1) hw) (va_cwU 1 hts gJ5_append_cf1ce_J5_ensureCapacityInternal_d00df_u100J4 rfl rfl rfl rfl (by decide +kernel) ⟨Nat.le_of_ble_eq_true rfl, Nat.le_of_ble_eq_true rfl⟩) hE (gSub hP [0, 1]) (gDSub hD [0, 1] rfl) 0 1 rfl rfl rfl rfl rfl hl.1 rfl (lv_room (Nat.le_of_ble_eq_true rfl)) dJ5_append_cf1ce_21 ⟨Nat.le_of_ble_eq_true rfl, Nat.le_of_ble_eq_true rfl⟩) hP hD hS hA [0, 1] rfl rfl rfl (fun H locs hw hP hD hS => ?_)
  have hP : va_P g.1 vwCl (List.flatten [kSO g a_sb b_at b_ml b_count, kBa g b_at b_cap b_bytes]) H := hP
  have hD : va_D A (List.flatten [kSO g a_sb b_at b_ml b_count, kBa g b_at b_cap b_bytes]) := hD
  refine lv_aload_n hx hb dJ5_append_cf1ce_24 rfl (lv_at hl 1 rfl) ?_
  refine lv_aload_n hx hb dJ5_append_cf1ce_25 rfl (lv_at hl 1 rfl) ?_
  refine va_get (D := g.1) (ci := 1) (v := .int b_count) (C := RJ4) (T := TJ4) (N := 4) hx hb hts inJ5_append_cf1ce_J4 hown hE.1 hP 0 rfl rfl 3 (by decide) (gW hts 1 (.fieldLink RJ5 79 "java/lang/AbstractStringBuilder" "count" "I") rfl) (fun _ h9 => h9) rfl dJ5_append_cf1ce_26 ?_
  refine lv_aload_n hx hb dJ5_append_cf1ce_29 rfl (lv_at hl 2 rfl) ?_
  refine gCv1 (gRunUX (As := [.int b_count, .ref (t.1 k_su)]) (rest := []) ⟨hx, hb, hml, hown, hts⟩ (ctJ5_putStringAt_47b60 l g t a_sb _ b_ml b_count b_at b_cap b_bytes k_su su_len su_txt hk_su b_count hw) (va_cwU 2 hts gJ5_append_cf1ce_J5_putStringAt_47b60_u208J4 rfl rfl rfl rfl (by decide +kernel) ⟨Nat.le_of_ble_eq_true rfl, Nat.le_of_ble_eq_true rfl⟩) hE hX hS (gFree hD hS hA [0, 1]) (gSub hP [0, 1]) (gDSub hD [0, 1] rfl) 0 1 rfl rfl rfl rfl rfl hl.1 rfl (lv_room (Nat.le_of_ble_eq_true rfl)) dJ5_append_cf1ce_30 ⟨Nat.le_of_ble_eq_true rfl, Nat.le_of_ble_eq_true rfl⟩) hP hD hS hA [0, 1] rfl (fun _ => rfl) rfl (fun b_bytes_v3 H locs hw hP hD hS => ?_)
  have hP : va_P g.1 vwCl (List.flatten [kSO g a_sb b_at b_ml b_count, kBa g b_at b_cap b_bytes_v3]) H := hP
  have hD : va_D A (List.flatten [kSO g a_sb b_at b_ml b_count, kBa g b_at b_cap b_bytes_v3]) := hD
  refine lv_aload_n hx hb dJ5_append_cf1ce_33 rfl (lv_at hl 1 rfl) ?_
  refine lv_dup hx hb dJ5_append_cf1ce_34 rfl ?_
  refine va_get (D := g.1) (ci := 1) (v := .int b_count) (C := RJ4) (T := TJ4) (N := 4) hx hb hts inJ5_append_cf1ce_J4 hown hE.1 hP 0 rfl rfl 3 (by decide) (gW hts 1 (.fieldLink RJ5 79 "java/lang/AbstractStringBuilder" "count" "I") rfl) (fun _ h9 => h9) rfl dJ5_append_cf1ce_35 ?_
  refine lv_iload_n hx hb dJ5_append_cf1ce_38 rfl (lv_at hl 0 rfl) ?_
  refine lv_iadd hx hb dJ5_append_cf1ce_39 ?_
  refine va_put (D := g.1) (ci := 1) (v := .int (b_count + r1)) (ty := .int) (C := RJ4) (T := TJ4) (N := 4) hx hb hts inJ5_append_cf1ce_J4 tyJ4 tyJ4_ok nmJ4 hown hE.1 hP hD hS 0 rfl rfl 3 (by decide) (gW hts 1 (.fieldLink RJ5 79 "java/lang/AbstractStringBuilder" "count" "I") rfl) (fun _ h9 => h9) rfl (by decide +kernel) rfl rfl (Nat.le_of_ble_eq_true rfl) dJ5_append_cf1ce_40 (fun H locs hP hD hS => ?_)
  have hP : va_P g.1 vwCl (List.flatten [kSO g a_sb b_at b_ml (b_count + r1), kBa g b_at b_cap b_bytes_v3]) H := hP
  have hD : va_D A (List.flatten [kSO g a_sb b_at b_ml (b_count + r1), kBa g b_at b_cap b_bytes_v3]) := hD
  refine lv_aload_n hx hb dJ5_append_cf1ce_43 rfl (lv_at hl 1 rfl) ?_
  subst hQ
  exact W.aret hx hb hr (Or.inl ⟨_, rfl⟩) (Or.inr ⟨_, rfl⟩) (gRr2 (c1 := (b_count + r1)) (c2 := b_bytes_v3) (wf := _) hA0 hsz hw hP hD hS) hS.2.2 dJ5_append_cf1ce_44
abbrev rmJ4_append_15ec4 : Room := { frames := 5, cells := 0, slots := 0, locals := 191 }
set_option maxRecDepth 20000 in
theorem inJ4_append_15ec4_J4 : ∀ w ∈ wsJ40, w ∈ wsJ4_append_15ec4 := by decide +kernel
set_option maxHeartbeats 4000000 in
set_option maxRecDepth 100000 in
theorem ctJ4_append_15ec4 (l : Launch) (g : GG) (t : GT) (a_sb : Nat → Nat) (sz : Nat) (b_ml : Int32) (b_count : Int32) (b_at : Nat → Nat) (b_cap : Nat) (b_bytes : Nat → Int32) (k_su : Nat) (su_len : Nat) (su_txt : Nat → Int32) (hk_su : gIs k_su su_len su_txt) {post : Int32 → (Nat → Int32) → Prop} (hw : wpJ4_append_15ec4 su_len su_txt b_count b_cap b_bytes post) :
    Met l yJ4_append_15ec4 wsJ4_append_15ec4 rmJ4_append_15ec4 (gPX g t sz (List.flatten [kSO g a_sb b_at b_ml b_count, kBa g b_at b_cap b_bytes]) [.ref (a_sb 0), .ref (t.1 k_su)]) (gQr2 post (fun u1 u2 => gB g (List.flatten [kSO g a_sb b_at b_ml b_count, kBa g b_at b_cap b_bytes]) sz (List.flatten [kSO g a_sb b_at b_ml u1, kBa g b_at b_cap u2])) (va_A (List.flatten [kSO g a_sb b_at b_ml b_count, kBa g b_at b_cap b_bytes]) sz)) 0 0 (va_A (List.flatten [kSO g a_sb b_at b_ml b_count, kBa g b_at b_cap b_bytes]) sz) := by
  refine gOfX (cc := cJ4_append_15ec4) (maxL := 2) (ret := (some (.object "java/lang/StringBuilder"))) (by decide) rfl (Nat.le_of_ble_eq_true rfl) ?_
  intro p e s m below meth c ls Q A hQ hx hb hr hml hts hown hlocks hE hA0 hsz hP hD hA hS hl hX
  have hz_su := hX.str hk_su
  have hl : lv_has ls 2 [(0, .ref (a_sb 0)), (1, .ref (t.1 k_su))] := hl
  refine lv_aload_n hx hb dJ4_append_15ec4_0 rfl (lv_at hl 0 rfl) ?_
  refine lv_aload_n hx hb dJ4_append_15ec4_1 rfl (lv_at hl 1 rfl) ?_
  refine gCr2 (gRunSUX (As := [.ref (t.1 k_su)]) (rest := []) ⟨hx, hb, hml, hown, hts⟩ (ctJ5_append_cf1ce l g t a_sb _ b_ml b_count b_at b_cap b_bytes k_su su_len su_txt hk_su hw) (va_cwSU 1 hts gJ4_append_15ec4_J5_append_cf1ce_s29 rfl rfl rfl (by decide +kernel) ⟨Nat.le_of_ble_eq_true rfl, Nat.le_of_ble_eq_true rfl⟩) hE hX hS (gFree hD hS hA [0, 1]) (gSub hP [0, 1]) (gDSub hD [0, 1] rfl) 0 1 rfl rfl rfl rfl rfl hl.1 rfl (lv_room (Nat.le_of_ble_eq_true rfl)) dJ4_append_15ec4_2 ⟨Nat.le_of_ble_eq_true rfl, Nat.le_of_ble_eq_true rfl⟩) hP hD hS hA [0, 1] rfl (fun _ _ => rfl) rfl (fun ra1 b_count_v1 b_bytes_v1 H locs hw hP hD hS => ?_)
  have hP : va_P g.1 vwCl (List.flatten [kSO g a_sb b_at b_ml b_count_v1, kBa g b_at b_cap b_bytes_v1]) H := hP
  have hD : va_D A (List.flatten [kSO g a_sb b_at b_ml b_count_v1, kBa g b_at b_cap b_bytes_v1]) := hD
  refine lv_pop hx hb dJ4_append_15ec4_5 rfl ?_
  refine lv_aload_n hx hb dJ4_append_15ec4_6 rfl (lv_at hl 0 rfl) ?_
  subst hQ
  exact W.aret hx hb hr (Or.inl ⟨_, rfl⟩) (Or.inr ⟨_, rfl⟩) (gRr2 (c1 := b_count_v1) (c2 := b_bytes_v1) (wf := _) hA0 hsz hw hP hD hS) hS.2.2 dJ4_append_15ec4_7
abbrev rmJ3_checkIndex_8e157_U : Room := { frames := 1, cells := 0, slots := 0, locals := 100 }
set_option maxHeartbeats 4000000 in
set_option maxRecDepth 100000 in
theorem ctJ3_checkIndex_8e157_U (l : Launch) (g : GG) (sz : Nat) (q2 : Nat) (x0 : Int32) (x1 : Int32) {post : Int32 → Prop} (hw : wpJ3_checkIndex_8e157 x0 x1 post) :
    Met l yJ3_checkIndex_8e157 wsJ3_checkIndex_8e157 rmJ3_checkIndex_8e157_U (gPc g sz (List.flatten []) [.int x0, .int x1, .ref q2]) (gQi0 post (gB g (List.flatten []) sz (List.flatten [])) (va_A (List.flatten []) sz)) 0 0 (va_A (List.flatten []) sz) := by
  refine gOf (cc := cJ3_checkIndex_8e157) (maxL := 3) (ret := (some .int)) (by decide) rfl (Nat.le_of_ble_eq_true rfl) ?_
  intro p e s m below meth c ls Q A hQ hx hb hr hml hts hown hlocks hE hA0 hsz hP hD hA hS hl
  have hl : lv_has ls 3 [(0, .int x0), (1, .int x1), (2, .ref q2)] := hl
  refine lv_iload_n hx hb dJ3_checkIndex_8e157_0 rfl (lv_at hl 0 rfl) ?_
  refine lv_if_lt (tgt := 9) hx hb dJ3_checkIndex_8e157_1 (by decide) (fun c_1 => (hw.1 c_1).elim) (fun c_1 => ?_)
  have hw := hw.2 c_1
  refine lv_iload_n hx hb dJ3_checkIndex_8e157_4 rfl (lv_at hl 0 rfl) ?_
  refine lv_iload_n hx hb dJ3_checkIndex_8e157_5 rfl (lv_at hl 1 rfl) ?_
  refine lv_icmp_lt (tgt := 16) hx hb dJ3_checkIndex_8e157_6 (by decide) (fun c_6 => ?_) (fun c_6 => (hw.2 c_6).elim)
  have hw := hw.1 c_6
  refine lv_iload_n hx hb dJ3_checkIndex_8e157_16 rfl (lv_at hl 0 rfl) ?_
  subst hQ
  exact W.iret hx hb hr (gRi0 (wf := _) hA0 hsz hw hP hD hS) hS.2.2 dJ3_checkIndex_8e157_17
abbrev rmJ3_checkIndex_8e157_N : Room := { frames := 1, cells := 0, slots := 0, locals := 100 }
set_option maxHeartbeats 4000000 in
set_option maxRecDepth 100000 in
theorem ctJ3_checkIndex_8e157_N (l : Launch) (g : GG) (sz : Nat) (x0 : Int32) (x1 : Int32) {post : Int32 → Prop} (hw : wpJ3_checkIndex_8e157 x0 x1 post) :
    Met l yJ3_checkIndex_8e157 wsJ3_checkIndex_8e157 rmJ3_checkIndex_8e157_N (gPc g sz (List.flatten []) [.int x0, .int x1, .null]) (gQi0 post (gB g (List.flatten []) sz (List.flatten [])) (va_A (List.flatten []) sz)) 0 0 (va_A (List.flatten []) sz) := by
  refine gOf (cc := cJ3_checkIndex_8e157) (maxL := 3) (ret := (some .int)) (by decide) rfl (Nat.le_of_ble_eq_true rfl) ?_
  intro p e s m below meth c ls Q A hQ hx hb hr hml hts hown hlocks hE hA0 hsz hP hD hA hS hl
  have hl : lv_has ls 3 [(0, .int x0), (1, .int x1), (2, .null)] := hl
  refine lv_iload_n hx hb dJ3_checkIndex_8e157_0 rfl (lv_at hl 0 rfl) ?_
  refine lv_if_lt (tgt := 9) hx hb dJ3_checkIndex_8e157_1 (by decide) (fun c_1 => (hw.1 c_1).elim) (fun c_1 => ?_)
  have hw := hw.2 c_1
  refine lv_iload_n hx hb dJ3_checkIndex_8e157_4 rfl (lv_at hl 0 rfl) ?_
  refine lv_iload_n hx hb dJ3_checkIndex_8e157_5 rfl (lv_at hl 1 rfl) ?_
  refine lv_icmp_lt (tgt := 16) hx hb dJ3_checkIndex_8e157_6 (by decide) (fun c_6 => ?_) (fun c_6 => (hw.2 c_6).elim)
  have hw := hw.1 c_6
  refine lv_iload_n hx hb dJ3_checkIndex_8e157_16 rfl (lv_at hl 0 rfl) ?_
  subst hQ
  exact W.iret hx hb hr (gRi0 (wf := _) hA0 hsz hw hP hD hS) hS.2.2 dJ3_checkIndex_8e157_17
abbrev rmJ0_checkIndex_df160 : Room := { frames := 2, cells := 0, slots := 0, locals := 123 }
set_option maxHeartbeats 4000000 in
set_option maxRecDepth 100000 in
theorem ctJ0_checkIndex_df160 (l : Launch) (g : GG) (t : GT) (sz : Nat) (x0 : Int32) (x1 : Int32) {post : Prop} (hw : wpJ0_checkIndex_df160 x0 x1 post) :
    Met l yJ0_checkIndex_df160 wsJ0_checkIndex_df160 rmJ0_checkIndex_df160 (gPX g t sz (List.flatten []) [.int x0, .int x1]) (gQv0 post (gB g (List.flatten []) sz (List.flatten [])) (va_A (List.flatten []) sz)) 0 0 (va_A (List.flatten []) sz) := by
  refine gOfX (cc := cJ0_checkIndex_df160) (maxL := 2) (ret := none) (by decide) rfl (Nat.le_of_ble_eq_true rfl) ?_
  intro p e s m below meth c ls Q A hQ hx hb hr hml hts hown hlocks hE hA0 hsz hP hD hA hS hl hX
  have hl : lv_has ls 2 [(0, .int x0), (1, .int x1)] := hl
  refine lv_iload_n hx hb dJ0_checkIndex_df160_0 rfl (lv_at hl 0 rfl) ?_
  refine lv_iload_n hx hb dJ0_checkIndex_df160_1 rfl (lv_at hl 1 rfl) ?_
  rcases hX.1.2.2.2.2.1 with hZ | ⟨q9, hZ⟩
  · refine va_gets hx hb hZ hS hown (gW hts 1 (.fieldLink RJ0 1053 "jdk/internal/util/Preconditions" "SIOOBE_FORMATTER" "Ljava/util/function/BiFunction;") rfl) (fun _ h9 => h9) dJ0_checkIndex_df160_2 ?_
    refine gCi0 (gRunS (As := [.int x0, .int x1, .null]) (rest := []) ⟨hx, hb, hml, hown, hts⟩ (ctJ3_checkIndex_8e157_N l g _ x0 x1 hw) (va_cwS 3 hts gJ0_checkIndex_df160_J3_checkIndex_8e157 rfl rfl rfl (by decide +kernel) ⟨Nat.le_of_ble_eq_true rfl, Nat.le_of_ble_eq_true rfl⟩) hE (gSub hP []) (gDSub hD [] rfl) rfl rfl hl.1 rfl (lv_room (Nat.le_of_ble_eq_true rfl)) dJ0_checkIndex_df160_5 ⟨Nat.le_of_ble_eq_true rfl, Nat.le_of_ble_eq_true rfl⟩) hP hD hS hA [] rfl rfl rfl (fun r1 H locs hw hP hD hS => ?_)
    have hP : va_P g.1 vwCl (List.flatten []) H := hP
    have hD : va_D A (List.flatten []) := hD
    refine lv_pop hx hb dJ0_checkIndex_df160_8 rfl ?_
    subst hQ
    exact W.vret hx hb hr (gRv0 (wf := _) hA0 hsz hw hP hD hS) hS.2.2 dJ0_checkIndex_df160_9
  · refine va_gets hx hb hZ hS hown (gW hts 1 (.fieldLink RJ0 1053 "jdk/internal/util/Preconditions" "SIOOBE_FORMATTER" "Ljava/util/function/BiFunction;") rfl) (fun _ h9 => h9) dJ0_checkIndex_df160_2 ?_
    refine gCi0 (gRunS (As := [.int x0, .int x1, .ref q9]) (rest := []) ⟨hx, hb, hml, hown, hts⟩ (ctJ3_checkIndex_8e157_U l g _ q9 x0 x1 hw) (va_cwS 3 hts gJ0_checkIndex_df160_J3_checkIndex_8e157 rfl rfl rfl (by decide +kernel) ⟨Nat.le_of_ble_eq_true rfl, Nat.le_of_ble_eq_true rfl⟩) hE (gSub hP []) (gDSub hD [] rfl) rfl rfl hl.1 rfl (lv_room (Nat.le_of_ble_eq_true rfl)) dJ0_checkIndex_df160_5 ⟨Nat.le_of_ble_eq_true rfl, Nat.le_of_ble_eq_true rfl⟩) hP hD hS hA [] rfl rfl rfl (fun r2 H locs hw hP hD hS => ?_)
    have hP : va_P g.1 vwCl (List.flatten []) H := hP
    have hD : va_D A (List.flatten []) := hD
    refine lv_pop hx hb dJ0_checkIndex_df160_8 rfl ?_
    subst hQ
    exact W.vret hx hb hr (gRv0 (wf := _) hA0 hsz hw hP hD hS) hS.2.2 dJ0_checkIndex_df160_9
abbrev rmJ5_charAt_5068e : Room := { frames := 3, cells := 0, slots := 0, locals := 145 }
set_option maxRecDepth 20000 in
theorem inJ5_charAt_5068e_J4 : ∀ w ∈ wsJ40, w ∈ wsJ5_charAt_5068e := by decide +kernel
set_option maxHeartbeats 4000000 in
set_option maxRecDepth 100000 in
theorem ctJ5_charAt_5068e (l : Launch) (g : GG) (t : GT) (a_sb : Nat → Nat) (sz : Nat) (b_ml : Int32) (b_count : Int32) (b_at : Nat → Nat) (b_cap : Nat) (b_bytes : Nat → Int32) (x1 : Int32) {post : Int32 → Prop} (hw : wpJ5_charAt_5068e x1 b_count b_cap b_bytes post) :
    Met l yJ5_charAt_5068e wsJ5_charAt_5068e rmJ5_charAt_5068e (gPX g t sz (List.flatten [kSO g a_sb b_at b_ml b_count, kBa g b_at b_cap b_bytes]) [.ref (a_sb 0), .int x1]) (gQi0 post (gB g (List.flatten [kSO g a_sb b_at b_ml b_count, kBa g b_at b_cap b_bytes]) sz (List.flatten [kSO g a_sb b_at b_ml b_count, kBa g b_at b_cap b_bytes])) (va_A (List.flatten [kSO g a_sb b_at b_ml b_count, kBa g b_at b_cap b_bytes]) sz)) 0 0 (va_A (List.flatten [kSO g a_sb b_at b_ml b_count, kBa g b_at b_cap b_bytes]) sz) := by
  refine gOfX (cc := cJ5_charAt_5068e) (maxL := 5) (ret := (some .char)) (by decide) rfl (Nat.le_of_ble_eq_true rfl) ?_
  intro p e s m below meth c ls Q A hQ hx hb hr hml hts hown hlocks hE hA0 hsz hP hD hA hS hl hX
  have hl : lv_has ls 5 [(0, .ref (a_sb 0)), (1, .int x1)] := hl
  refine lv_aload_n hx hb dJ5_charAt_5068e_0 rfl (lv_at hl 0 rfl) ?_
  refine va_get (D := g.1) (ci := 1) (v := .int 0) (C := RJ4) (T := TJ4) (N := 4) hx hb hts inJ5_charAt_5068e_J4 hown hE.1 hP 0 rfl rfl 1 (by decide) (gW hts 1 (.fieldLink RJ5 22 "java/lang/AbstractStringBuilder" "coder" "B") rfl) (fun _ h9 => h9) rfl dJ5_charAt_5068e_1 ?_
  refine lv_istore_n (lv' := [(2, .int 0), (0, .ref (a_sb 0)), (1, .int x1)]) hx hb dJ5_charAt_5068e_4 rfl hl (by decide) rfl (fun ls hl => ?_)
  refine lv_aload_n hx hb dJ5_charAt_5068e_5 rfl (lv_at hl 1 rfl) ?_
  refine va_get (D := g.1) (ci := 1) (v := .ref (b_at 0)) (C := RJ4) (T := TJ4) (N := 4) hx hb hts inJ5_charAt_5068e_J4 hown hE.1 hP 0 rfl rfl 0 (by decide) (gW hts 2 (.fieldLink RJ5 15 "java/lang/AbstractStringBuilder" "value" "[B") rfl) (fun _ h9 => h9) rfl dJ5_charAt_5068e_6 ?_
  refine lv_astore_n (lv' := [(3, .ref (b_at 0)), (2, .int 0), (0, .ref (a_sb 0)), (1, .int x1)]) hx hb dJ5_charAt_5068e_9 rfl hl (by decide) rfl (fun ls hl => ?_)
  refine lv_aload_n hx hb dJ5_charAt_5068e_10 rfl (lv_at hl 2 rfl) ?_
  refine va_get (D := g.1) (ci := 1) (v := .int b_count) (C := RJ4) (T := TJ4) (N := 4) hx hb hts inJ5_charAt_5068e_J4 hown hE.1 hP 0 rfl rfl 3 (by decide) (gW hts 3 (.fieldLink RJ5 79 "java/lang/AbstractStringBuilder" "count" "I") rfl) (fun _ h9 => h9) rfl dJ5_charAt_5068e_11 ?_
  refine lv_aload_n hx hb dJ5_charAt_5068e_14 rfl (lv_at hl 0 rfl) ?_
  refine va_alen hx hb hE.1 hP 1 3 rfl rfl rfl dJ5_charAt_5068e_15 ?_
  refine lv_iload_n hx hb dJ5_charAt_5068e_16 rfl (lv_at hl 1 rfl) ?_
  refine lv_ishr hx hb dJ5_charAt_5068e_17 ?_
  refine va_mmin hx hb (hml.trans hl.1.symm) hown (gW hts 4 (.methodLink RJ5 138 Lib.Math.min.name) rfl) (gW hts 5 (.static Lib.Math.min.name) rfl) (gW hts 6 (.initialized "java/lang/Math") rfl) (gW hts 7 (.code Lib.Math.min.name Lib.Math.min.code 2 (some .int)) rfl) (Nat.le_of_ble_eq_true rfl) (Nat.le_of_ble_eq_true rfl) (Nat.le_of_ble_eq_true rfl) (Nat.le_of_ble_eq_true rfl) dJ5_charAt_5068e_18 ?_
  refine lv_istore (lv' := [(4, .int (if ((nI b_cap) >>> ((0 : Int32) &&& 31)) < b_count then ((nI b_cap) >>> ((0 : Int32) &&& 31)) else b_count)), (3, .ref (b_at 0)), (2, .int 0), (0, .ref (a_sb 0)), (1, .int x1)]) hx hb dJ5_charAt_5068e_21 hl (by decide) rfl (fun ls hl => ?_)
  refine lv_iload_n hx hb dJ5_charAt_5068e_23 rfl (lv_at hl 4 rfl) ?_
  refine lv_iload hx hb dJ5_charAt_5068e_24 (lv_at hl 0 rfl) ?_
  refine gCv0 (gRunSX (As := [.int x1, .int (if ((nI b_cap) >>> ((0 : Int32) &&& 31)) < b_count then ((nI b_cap) >>> ((0 : Int32) &&& 31)) else b_count)]) (rest := []) ⟨hx, hb, hml, hown, hts⟩ (ctJ0_checkIndex_df160 l g t _ x1 (if ((nI b_cap) >>> ((0 : Int32) &&& 31)) < b_count then ((nI b_cap) >>> ((0 : Int32) &&& 31)) else b_count) hw) (va_cwS 2 hts gJ5_charAt_5068e_J0_checkIndex_df160 rfl rfl rfl (by decide +kernel) ⟨Nat.le_of_ble_eq_true rfl, Nat.le_of_ble_eq_true rfl⟩) hE hX hS (gFree hD hS hA []) (gSub hP []) (gDSub hD [] rfl) rfl rfl hl.1 rfl (lv_room (Nat.le_of_ble_eq_true rfl)) dJ5_charAt_5068e_26 ⟨Nat.le_of_ble_eq_true rfl, Nat.le_of_ble_eq_true rfl⟩) hP hD hS hA [] rfl rfl rfl (fun H locs hw hP hD hS => ?_)
  have hP : va_P g.1 vwCl (List.flatten [kSO g a_sb b_at b_ml b_count, kBa g b_at b_cap b_bytes]) H := hP
  have hD : va_D A (List.flatten [kSO g a_sb b_at b_ml b_count, kBa g b_at b_cap b_bytes]) := hD
  refine lv_iload_n hx hb dJ5_charAt_5068e_29 rfl (lv_at hl 2 rfl) ?_
  refine lv_if_ne (tgt := 42) hx hb dJ5_charAt_5068e_30 (by decide) (fun c_30 => absurd c_30 (by decide)) (fun c_30 => ?_)
  refine lv_aload_n hx hb dJ5_charAt_5068e_33 rfl (lv_at hl 1 rfl) ?_
  refine lv_iload_n hx hb dJ5_charAt_5068e_34 rfl (lv_at hl 4 rfl) ?_
  have h2 := hw.1
  have hw := hw.2
  refine va_bald hx hb hE.1 hP 1 3 rfl rfl h2 dJ5_charAt_5068e_35 ?_
  refine lv_sipush (v := 255) hx hb dJ5_charAt_5068e_36 (by decide) ?_
  refine lv_iand hx hb dJ5_charAt_5068e_39 ?_
  refine lv_i2c (v := (((b_bytes x1.toNatClampNeg) &&& 255).toUInt32 % 65536).toInt32) hx hb dJ5_charAt_5068e_40 rfl ?_
  have h3 := hw.1
  have hw := hw.2
  subst hQ
  exact W.zret (ty := .char) hx hb hr h3 (gRi0 (wf := _) hA0 hsz hw hP hD hS) hS.2.2 dJ5_charAt_5068e_41
abbrev rmJ4_charAt_5068e : Room := { frames := 4, cells := 0, slots := 0, locals := 170 }
set_option maxRecDepth 20000 in
theorem inJ4_charAt_5068e_J4 : ∀ w ∈ wsJ40, w ∈ wsJ4_charAt_5068e := by decide +kernel
set_option maxHeartbeats 4000000 in
set_option maxRecDepth 100000 in
theorem ctJ4_charAt_5068e (l : Launch) (g : GG) (t : GT) (a_sb : Nat → Nat) (sz : Nat) (b_ml : Int32) (b_count : Int32) (b_at : Nat → Nat) (b_cap : Nat) (b_bytes : Nat → Int32) (x1 : Int32) {post : Int32 → Prop} (hw : wpJ4_charAt_5068e x1 b_count b_cap b_bytes post) :
    Met l yJ4_charAt_5068e wsJ4_charAt_5068e rmJ4_charAt_5068e (gPX g t sz (List.flatten [kSO g a_sb b_at b_ml b_count, kBa g b_at b_cap b_bytes]) [.ref (a_sb 0), .int x1]) (gQi0 post (gB g (List.flatten [kSO g a_sb b_at b_ml b_count, kBa g b_at b_cap b_bytes]) sz (List.flatten [kSO g a_sb b_at b_ml b_count, kBa g b_at b_cap b_bytes])) (va_A (List.flatten [kSO g a_sb b_at b_ml b_count, kBa g b_at b_cap b_bytes]) sz)) 0 0 (va_A (List.flatten [kSO g a_sb b_at b_ml b_count, kBa g b_at b_cap b_bytes]) sz) := by
  refine gOfX (cc := cJ4_charAt_5068e) (maxL := 2) (ret := (some .char)) (by decide) rfl (Nat.le_of_ble_eq_true rfl) ?_
  intro p e s m below meth c ls Q A hQ hx hb hr hml hts hown hlocks hE hA0 hsz hP hD hA hS hl hX
  have hl : lv_has ls 2 [(0, .ref (a_sb 0)), (1, .int x1)] := hl
  refine lv_aload_n hx hb dJ4_charAt_5068e_0 rfl (lv_at hl 0 rfl) ?_
  refine lv_iload_n hx hb dJ4_charAt_5068e_1 rfl (lv_at hl 1 rfl) ?_
  refine gCi0 (gRunSUX (As := [.int x1]) (rest := []) ⟨hx, hb, hml, hown, hts⟩ (ctJ5_charAt_5068e l g t a_sb _ b_ml b_count b_at b_cap b_bytes x1 hw) (va_cwSU 1 hts gJ4_charAt_5068e_J5_charAt_5068e_s329 rfl rfl rfl (by decide +kernel) ⟨Nat.le_of_ble_eq_true rfl, Nat.le_of_ble_eq_true rfl⟩) hE hX hS (gFree hD hS hA [0, 1]) (gSub hP [0, 1]) (gDSub hD [0, 1] rfl) 0 1 rfl rfl rfl rfl rfl hl.1 rfl (lv_room (Nat.le_of_ble_eq_true rfl)) dJ4_charAt_5068e_2 ⟨Nat.le_of_ble_eq_true rfl, Nat.le_of_ble_eq_true rfl⟩) hP hD hS hA [0, 1] rfl rfl rfl (fun r1 H locs hw hP hD hS => ?_)
  have hP : va_P g.1 vwCl (List.flatten [kSO g a_sb b_at b_ml b_count, kBa g b_at b_cap b_bytes]) H := hP
  have hD : va_D A (List.flatten [kSO g a_sb b_at b_ml b_count, kBa g b_at b_cap b_bytes]) := hD
  have h2 := hw.1
  have hw := hw.2
  subst hQ
  exact W.zret (ty := .char) hx hb hr h2 (gRi0 (wf := _) hA0 hsz hw hP hD hS) hS.2.2 dJ4_charAt_5068e_5
abbrev rmJ5_length_8abf5 : Room := { frames := 1, cells := 0, slots := 0, locals := 100 }
set_option maxRecDepth 20000 in
theorem inJ5_length_8abf5_J4 : ∀ w ∈ wsJ40, w ∈ wsJ5_length_8abf5 := by decide +kernel
set_option maxHeartbeats 4000000 in
set_option maxRecDepth 100000 in
theorem ctJ5_length_8abf5 (l : Launch) (g : GG) (a_sb : Nat → Nat) (b_at : Nat → Nat) (sz : Nat) (b_ml : Int32) (b_count : Int32) {post : Int32 → Prop} (hw : wpJ5_length_8abf5 b_count post) :
    Met l yJ5_length_8abf5 wsJ5_length_8abf5 rmJ5_length_8abf5 (gPc g sz (List.flatten [kSO g a_sb b_at b_ml b_count]) [.ref (a_sb 0)]) (gQi0 post (gB g (List.flatten [kSO g a_sb b_at b_ml b_count]) sz (List.flatten [kSO g a_sb b_at b_ml b_count])) (va_A (List.flatten [kSO g a_sb b_at b_ml b_count]) sz)) 0 0 (va_A (List.flatten [kSO g a_sb b_at b_ml b_count]) sz) := by
  refine gOf (cc := cJ5_length_8abf5) (maxL := 1) (ret := (some .int)) (by decide) rfl (Nat.le_of_ble_eq_true rfl) ?_
  intro p e s m below meth c ls Q A hQ hx hb hr hml hts hown hlocks hE hA0 hsz hP hD hA hS hl
  have hl : lv_has ls 1 [(0, .ref (a_sb 0))] := hl
  refine lv_aload_n hx hb dJ5_length_8abf5_0 rfl (lv_at hl 0 rfl) ?_
  refine va_get (D := g.1) (ci := 1) (v := .int b_count) (C := RJ4) (T := TJ4) (N := 4) hx hb hts inJ5_length_8abf5_J4 hown hE.1 hP 0 rfl rfl 3 (by decide) (gW hts 1 (.fieldLink RJ5 79 "java/lang/AbstractStringBuilder" "count" "I") rfl) (fun _ h9 => h9) rfl dJ5_length_8abf5_1 ?_
  subst hQ
  exact W.iret hx hb hr (gRi0 (wf := _) hA0 hsz hw hP hD hS) hS.2.2 dJ5_length_8abf5_4
abbrev rmJ4_length_8abf5 : Room := { frames := 2, cells := 0, slots := 0, locals := 121 }
set_option maxRecDepth 20000 in
theorem inJ4_length_8abf5_J4 : ∀ w ∈ wsJ40, w ∈ wsJ4_length_8abf5 := by decide +kernel
set_option maxHeartbeats 4000000 in
set_option maxRecDepth 100000 in
theorem ctJ4_length_8abf5 (l : Launch) (g : GG) (a_sb : Nat → Nat) (b_at : Nat → Nat) (sz : Nat) (b_ml : Int32) (b_count : Int32) {post : Int32 → Prop} (hw : wpJ4_length_8abf5 b_count post) :
    Met l yJ4_length_8abf5 wsJ4_length_8abf5 rmJ4_length_8abf5 (gPc g sz (List.flatten [kSO g a_sb b_at b_ml b_count]) [.ref (a_sb 0)]) (gQi0 post (gB g (List.flatten [kSO g a_sb b_at b_ml b_count]) sz (List.flatten [kSO g a_sb b_at b_ml b_count])) (va_A (List.flatten [kSO g a_sb b_at b_ml b_count]) sz)) 0 0 (va_A (List.flatten [kSO g a_sb b_at b_ml b_count]) sz) := by
  refine gOf (cc := cJ4_length_8abf5) (maxL := 1) (ret := (some .int)) (by decide) rfl (Nat.le_of_ble_eq_true rfl) ?_
  intro p e s m below meth c ls Q A hQ hx hb hr hml hts hown hlocks hE hA0 hsz hP hD hA hS hl
  have hl : lv_has ls 1 [(0, .ref (a_sb 0))] := hl
  refine lv_aload_n hx hb dJ4_length_8abf5_0 rfl (lv_at hl 0 rfl) ?_
  refine gCi0 (gRunSU (As := []) (rest := []) ⟨hx, hb, hml, hown, hts⟩ (ctJ5_length_8abf5 l g a_sb b_at _ b_ml b_count hw) (va_cwSU 0 hts gJ4_length_8abf5_J5_length_8abf5_s343 rfl rfl rfl (by decide +kernel) ⟨Nat.le_of_ble_eq_true rfl, Nat.le_of_ble_eq_true rfl⟩) hE (gSub hP [0]) (gDSub hD [0] rfl) 0 1 rfl rfl rfl rfl rfl hl.1 rfl (lv_room (Nat.le_of_ble_eq_true rfl)) dJ4_length_8abf5_1 ⟨Nat.le_of_ble_eq_true rfl, Nat.le_of_ble_eq_true rfl⟩) hP hD hS hA [0] rfl rfl rfl (fun r1 H locs hw hP hD hS => ?_)
  have hP : va_P g.1 vwCl (List.flatten [kSO g a_sb b_at b_ml b_count]) H := hP
  have hD : va_D A (List.flatten [kSO g a_sb b_at b_ml b_count]) := hD
  subst hQ
  exact W.iret hx hb hr (gRi0 (wf := _) hA0 hsz hw hP hD hS) hS.2.2 dJ4_length_8abf5_4
abbrev rmJ5_setLength_d00df : Room := { frames := 2, cells := 0, slots := 0, locals := 123 }
set_option maxRecDepth 20000 in
theorem inJ5_setLength_d00df_J4 : ∀ w ∈ wsJ40, w ∈ wsJ5_setLength_d00df := by decide +kernel
set_option maxHeartbeats 4000000 in
set_option maxRecDepth 100000 in
theorem ctJ5_setLength_d00df (l : Launch) (g : GG) (a_sb : Nat → Nat) (sz : Nat) (b_ml : Int32) (b_count : Int32) (b_at : Nat → Nat) (b_cap : Nat) (b_bytes : Nat → Int32) (x1 : Int32) {post : Int32 → Int32 → Prop} (hw : wpJ5_setLength_d00df x1 b_ml b_count b_cap post) :
    Met l yJ5_setLength_d00df wsJ5_setLength_d00df rmJ5_setLength_d00df (gPc g sz (List.flatten [kSO g a_sb b_at b_ml b_count, kBa g b_at b_cap b_bytes]) [.ref (a_sb 0), .int x1]) (gQv2 post (fun u1 u2 => gB g (List.flatten [kSO g a_sb b_at b_ml b_count, kBa g b_at b_cap b_bytes]) sz (List.flatten [kSO g a_sb b_at u1 u2, kBa g b_at b_cap b_bytes])) (va_A (List.flatten [kSO g a_sb b_at b_ml b_count, kBa g b_at b_cap b_bytes]) sz)) 0 0 (va_A (List.flatten [kSO g a_sb b_at b_ml b_count, kBa g b_at b_cap b_bytes]) sz) := by
  refine gOf (cc := cJ5_setLength_d00df) (maxL := 2) (ret := none) (by decide) rfl (Nat.le_of_ble_eq_true rfl) ?_
  intro p e s m below meth c ls Q A hQ hx hb hr hml hts hown hlocks hE hA0 hsz hP hD hA hS hl
  have hl : lv_has ls 2 [(0, .ref (a_sb 0)), (1, .int x1)] := hl
  refine lv_iload_n hx hb dJ5_setLength_d00df_0 rfl (lv_at hl 1 rfl) ?_
  refine lv_if_ge (tgt := 13) hx hb dJ5_setLength_d00df_1 (by decide) (fun c_1 => ?_) (fun c_1 => (hw.2 c_1).elim)
  have hw := hw.1 c_1
  refine lv_aload_n hx hb dJ5_setLength_d00df_13 rfl (lv_at hl 0 rfl) ?_
  refine lv_iload_n hx hb dJ5_setLength_d00df_14 rfl (lv_at hl 1 rfl) ?_
  refine gCv0 (gRunU (As := [.int x1]) (rest := []) ⟨hx, hb, hml, hown, hts⟩ (ctJ5_ensureCapacityInternal_d00df l g a_sb _ b_ml b_count b_at b_cap b_bytes x1 hw) (va_cwU 1 hts gJ5_setLength_d00df_J5_ensureCapacityInternal_d00df_u100J4 rfl rfl rfl rfl (by decide +kernel) ⟨Nat.le_of_ble_eq_true rfl, Nat.le_of_ble_eq_true rfl⟩) hE (gSub hP [0, 1]) (gDSub hD [0, 1] rfl) 0 1 rfl rfl rfl rfl rfl hl.1 rfl (lv_room (Nat.le_of_ble_eq_true rfl)) dJ5_setLength_d00df_15 ⟨Nat.le_of_ble_eq_true rfl, Nat.le_of_ble_eq_true rfl⟩) hP hD hS hA [0, 1] rfl rfl rfl (fun H locs hw hP hD hS => ?_)
  have hP : va_P g.1 vwCl (List.flatten [kSO g a_sb b_at b_ml b_count, kBa g b_at b_cap b_bytes]) H := hP
  have hD : va_D A (List.flatten [kSO g a_sb b_at b_ml b_count, kBa g b_at b_cap b_bytes]) := hD
  refine lv_aload_n hx hb dJ5_setLength_d00df_18 rfl (lv_at hl 0 rfl) ?_
  refine va_get (D := g.1) (ci := 1) (v := .int b_count) (C := RJ4) (T := TJ4) (N := 4) hx hb hts inJ5_setLength_d00df_J4 hown hE.1 hP 0 rfl rfl 3 (by decide) (gW hts 4 (.fieldLink RJ5 79 "java/lang/AbstractStringBuilder" "count" "I") rfl) (fun _ h9 => h9) rfl dJ5_setLength_d00df_19 ?_
  refine lv_iload_n hx hb dJ5_setLength_d00df_22 rfl (lv_at hl 1 rfl) ?_
  refine lv_icmp_ge (tgt := 63) hx hb dJ5_setLength_d00df_23 (by decide) (fun c_23 => ?_) (fun c_23 => (hw.2 c_23).elim)
  have hw := hw.1 c_23
  refine lv_aload_n hx hb dJ5_setLength_d00df_63 rfl (lv_at hl 0 rfl) ?_
  refine va_get (D := g.1) (ci := 1) (v := .int b_count) (C := RJ4) (T := TJ4) (N := 4) hx hb hts inJ5_setLength_d00df_J4 hown hE.1 hP 0 rfl rfl 3 (by decide) (gW hts 4 (.fieldLink RJ5 79 "java/lang/AbstractStringBuilder" "count" "I") rfl) (fun _ h9 => h9) rfl dJ5_setLength_d00df_64 ?_
  refine lv_iload_n hx hb dJ5_setLength_d00df_67 rfl (lv_at hl 1 rfl) ?_
  refine lv_icmp_le (tgt := 76) hx hb dJ5_setLength_d00df_68 (by decide) (fun c_68 => ?_) (fun c_68 => ?_)
  · have hw := hw.1 c_68
    refine lv_aload_n hx hb dJ5_setLength_d00df_76 rfl (lv_at hl 0 rfl) ?_
    refine lv_iload_n hx hb dJ5_setLength_d00df_77 rfl (lv_at hl 1 rfl) ?_
    refine va_put (D := g.1) (ci := 1) (v := .int x1) (ty := .int) (C := RJ4) (T := TJ4) (N := 4) hx hb hts inJ5_setLength_d00df_J4 tyJ4 tyJ4_ok nmJ4 hown hE.1 hP hD hS 0 rfl rfl 3 (by decide) (gW hts 4 (.fieldLink RJ5 79 "java/lang/AbstractStringBuilder" "count" "I") rfl) (fun _ h9 => h9) rfl (by decide +kernel) rfl rfl (Nat.le_of_ble_eq_true rfl) dJ5_setLength_d00df_78 (fun H locs hP hD hS => ?_)
    have hP : va_P g.1 vwCl (List.flatten [kSO g a_sb b_at b_ml x1, kBa g b_at b_cap b_bytes]) H := hP
    have hD : va_D A (List.flatten [kSO g a_sb b_at b_ml x1, kBa g b_at b_cap b_bytes]) := hD
    subst hQ
    exact W.vret hx hb hr (gRv2 (c1 := b_ml) (c2 := x1) (wf := _) hA0 hsz hw hP hD hS) hS.2.2 dJ5_setLength_d00df_81
  · have hw := hw.2 c_68
    refine lv_aload_n hx hb dJ5_setLength_d00df_71 rfl (lv_at hl 0 rfl) ?_
    refine lv_iconst (v := 1) hx hb dJ5_setLength_d00df_72 (by decide) ?_
    refine va_put (D := g.1) (ci := 1) (v := .int 1) (ty := .boolean) (C := RJ4) (T := TJ4) (N := 4) hx hb hts inJ5_setLength_d00df_J4 tyJ4 tyJ4_ok nmJ4 hown hE.1 hP hD hS 0 rfl rfl 2 (by decide) (gW hts 6 (.fieldLink RJ5 73 "java/lang/AbstractStringBuilder" "maybeLatin1" "Z") rfl) (fun _ h9 => h9) rfl (by decide +kernel) rfl rfl (Nat.le_of_ble_eq_true rfl) dJ5_setLength_d00df_73 (fun H locs hP hD hS => ?_)
    have hP : va_P g.1 vwCl (List.flatten [kSO g a_sb b_at 1 b_count, kBa g b_at b_cap b_bytes]) H := hP
    have hD : va_D A (List.flatten [kSO g a_sb b_at 1 b_count, kBa g b_at b_cap b_bytes]) := hD
    refine lv_aload_n hx hb dJ5_setLength_d00df_76 rfl (lv_at hl 0 rfl) ?_
    refine lv_iload_n hx hb dJ5_setLength_d00df_77 rfl (lv_at hl 1 rfl) ?_
    refine va_put (D := g.1) (ci := 1) (v := .int x1) (ty := .int) (C := RJ4) (T := TJ4) (N := 4) hx hb hts inJ5_setLength_d00df_J4 tyJ4 tyJ4_ok nmJ4 hown hE.1 hP hD hS 0 rfl rfl 3 (by decide) (gW hts 4 (.fieldLink RJ5 79 "java/lang/AbstractStringBuilder" "count" "I") rfl) (fun _ h9 => h9) rfl (by decide +kernel) rfl rfl (Nat.le_of_ble_eq_true rfl) dJ5_setLength_d00df_78 (fun H locs hP hD hS => ?_)
    have hP : va_P g.1 vwCl (List.flatten [kSO g a_sb b_at 1 x1, kBa g b_at b_cap b_bytes]) H := hP
    have hD : va_D A (List.flatten [kSO g a_sb b_at 1 x1, kBa g b_at b_cap b_bytes]) := hD
    subst hQ
    exact W.vret hx hb hr (gRv2 (c1 := 1) (c2 := x1) (wf := _) hA0 hsz hw hP hD hS) hS.2.2 dJ5_setLength_d00df_81
abbrev rmJ4_setLength_d00df : Room := { frames := 3, cells := 0, slots := 0, locals := 145 }
set_option maxRecDepth 20000 in
theorem inJ4_setLength_d00df_J4 : ∀ w ∈ wsJ40, w ∈ wsJ4_setLength_d00df := by decide +kernel
set_option maxHeartbeats 4000000 in
set_option maxRecDepth 100000 in
theorem ctJ4_setLength_d00df (l : Launch) (g : GG) (a_sb : Nat → Nat) (sz : Nat) (b_ml : Int32) (b_count : Int32) (b_at : Nat → Nat) (b_cap : Nat) (b_bytes : Nat → Int32) (x1 : Int32) {post : Int32 → Int32 → Prop} (hw : wpJ4_setLength_d00df x1 b_ml b_count b_cap post) :
    Met l yJ4_setLength_d00df wsJ4_setLength_d00df rmJ4_setLength_d00df (gPc g sz (List.flatten [kSO g a_sb b_at b_ml b_count, kBa g b_at b_cap b_bytes]) [.ref (a_sb 0), .int x1]) (gQv2 post (fun u1 u2 => gB g (List.flatten [kSO g a_sb b_at b_ml b_count, kBa g b_at b_cap b_bytes]) sz (List.flatten [kSO g a_sb b_at u1 u2, kBa g b_at b_cap b_bytes])) (va_A (List.flatten [kSO g a_sb b_at b_ml b_count, kBa g b_at b_cap b_bytes]) sz)) 0 0 (va_A (List.flatten [kSO g a_sb b_at b_ml b_count, kBa g b_at b_cap b_bytes]) sz) := by
  refine gOf (cc := cJ4_setLength_d00df) (maxL := 2) (ret := none) (by decide) rfl (Nat.le_of_ble_eq_true rfl) ?_
  intro p e s m below meth c ls Q A hQ hx hb hr hml hts hown hlocks hE hA0 hsz hP hD hA hS hl
  have hl : lv_has ls 2 [(0, .ref (a_sb 0)), (1, .int x1)] := hl
  refine lv_aload_n hx hb dJ4_setLength_d00df_0 rfl (lv_at hl 0 rfl) ?_
  refine lv_iload_n hx hb dJ4_setLength_d00df_1 rfl (lv_at hl 1 rfl) ?_
  refine gCv2 (gRunSU (As := [.int x1]) (rest := []) ⟨hx, hb, hml, hown, hts⟩ (ctJ5_setLength_d00df l g a_sb _ b_ml b_count b_at b_cap b_bytes x1 hw) (va_cwSU 1 hts gJ4_setLength_d00df_J5_setLength_d00df_s333 rfl rfl rfl (by decide +kernel) ⟨Nat.le_of_ble_eq_true rfl, Nat.le_of_ble_eq_true rfl⟩) hE (gSub hP [0, 1]) (gDSub hD [0, 1] rfl) 0 1 rfl rfl rfl rfl rfl hl.1 rfl (lv_room (Nat.le_of_ble_eq_true rfl)) dJ4_setLength_d00df_2 ⟨Nat.le_of_ble_eq_true rfl, Nat.le_of_ble_eq_true rfl⟩) hP hD hS hA [0, 1] rfl (fun _ _ => rfl) rfl (fun b_ml_v1 b_count_v1 H locs hw hP hD hS => ?_)
  have hP : va_P g.1 vwCl (List.flatten [kSO g a_sb b_at b_ml_v1 b_count_v1, kBa g b_at b_cap b_bytes]) H := hP
  have hD : va_D A (List.flatten [kSO g a_sb b_at b_ml_v1 b_count_v1, kBa g b_at b_cap b_bytes]) := hD
  subst hQ
  exact W.vret hx hb hr (gRv2 (c1 := b_ml_v1) (c2 := b_count_v1) (wf := _) hA0 hsz hw hP hD hS) hS.2.2 dJ4_setLength_d00df_5
abbrev rmJ0_isLatin1_aae02 : Room := { frames := 1, cells := 0, slots := 0, locals := 100 }
set_option maxHeartbeats 4000000 in
set_option maxRecDepth 100000 in
theorem ctJ0_isLatin1_aae02 (l : Launch) (g : GG) (t : GT) (sz : Nat) (k_su : Nat) (su_len : Nat) (su_txt : Nat → Int32) (hk_su : gIs k_su su_len su_txt) {post : Int32 → Prop} (hw : wpJ0_isLatin1_aae02 post) :
    Met l yJ0_isLatin1_aae02 wsJ0_isLatin1_aae02 rmJ0_isLatin1_aae02 (gPX g t sz (List.flatten []) [.ref (t.1 k_su)]) (gQi0 post (gB g (List.flatten []) sz (List.flatten [])) (va_A (List.flatten []) sz)) 0 0 (va_A (List.flatten []) sz) := by
  refine gOfX (cc := cJ0_isLatin1_aae02) (maxL := 1) (ret := (some .boolean)) (by decide) rfl (Nat.le_of_ble_eq_true rfl) ?_
  intro p e s m below meth c ls Q A hQ hx hb hr hml hts hown hlocks hE hA0 hsz hP hD hA hS hl hX
  have hz_su := hX.str hk_su
  have hl : lv_has ls 1 [(0, .ref (t.1 k_su))] := hl
  refine va_gets hx hb (hX.1.2.2.2.1) hS hown (gW hts 1 (.fieldLink RJ0 38 "java/lang/String" "COMPACT_STRINGS" "Z") rfl) (fun _ h9 => h9) dJ0_isLatin1_aae02_0 ?_
  refine lv_if_eq (tgt := 17) hx hb dJ0_isLatin1_aae02_3 (by decide) (fun c_3 => absurd c_3 (by decide)) (fun c_3 => ?_)
  refine lv_aload_n hx hb dJ0_isLatin1_aae02_6 rfl (lv_at hl 0 rfl) ?_
  refine vk_getf hx hb (hz_su.2.1) hS hown (gW hts 2 (.fieldLink RJ0 15 "java/lang/String" "coder" "B") rfl) (fun _ h9 => h9) dJ0_isLatin1_aae02_7 ?_
  refine lv_if_ne (tgt := 17) hx hb dJ0_isLatin1_aae02_10 (by decide) (fun c_10 => absurd c_10 (by decide)) (fun c_10 => ?_)
  refine lv_iconst (v := 1) hx hb dJ0_isLatin1_aae02_13 (by decide) ?_
  refine lv_goto (tgt := 18) hx hb dJ0_isLatin1_aae02_14 (by decide) ?_
  subst hQ
  exact W.zret (ty := .boolean) hx hb hr (by decide) (gRi0 (wf := _) hA0 hsz hw hP hD hS) hS.2.2 dJ0_isLatin1_aae02_18
abbrev rmJ1_charAt_3b067 : Room := { frames := 3, cells := 0, slots := 0, locals := 145 }
set_option maxHeartbeats 4000000 in
set_option maxRecDepth 100000 in
theorem ctJ1_charAt_3b067 (l : Launch) (g : GG) (t : GT) (sz : Nat) (k_su : Nat) (su_len : Nat) (su_txt : Nat → Int32) (hk_su : gIs k_su su_len su_txt) (x1 : Int32) {post : Int32 → Prop} (hw : wpJ1_charAt_3b067 x1 su_len su_txt post) :
    Met l yJ1_charAt_3b067 wsJ1_charAt_3b067 rmJ1_charAt_3b067 (gPX g t sz (List.flatten []) [.ref (t.2 k_su), .int x1]) (gQi0 post (gB g (List.flatten []) sz (List.flatten [])) (va_A (List.flatten []) sz)) 0 0 (va_A (List.flatten []) sz) := by
  refine gOfX (cc := cJ1_charAt_3b067) (maxL := 2) (ret := (some .char)) (by decide) rfl (Nat.le_of_ble_eq_true rfl) ?_
  intro p e s m below meth c ls Q A hQ hx hb hr hml hts hown hlocks hE hA0 hsz hP hD hA hS hl hX
  have hz_su := hX.str hk_su
  have hl : lv_has ls 2 [(0, .ref (t.2 k_su)), (1, .int x1)] := hl
  refine lv_iload_n hx hb dJ1_charAt_3b067_0 rfl (lv_at hl 1 rfl) ?_
  refine lv_aload_n hx hb dJ1_charAt_3b067_1 rfl (lv_at hl 0 rfl) ?_
  refine va_tlen hx hb hz_su.2.2.2 hS rfl dJ1_charAt_3b067_2 ?_
  refine gCv0 (gRunSX (As := [.int x1, .int (nI su_len)]) (rest := []) ⟨hx, hb, hml, hown, hts⟩ (ctJ0_checkIndex_df160 l g t _ x1 (nI su_len) hw) (va_cwS 2 hts gJ1_charAt_3b067_J0_checkIndex_df160 rfl rfl rfl (by decide +kernel) ⟨Nat.le_of_ble_eq_true rfl, Nat.le_of_ble_eq_true rfl⟩) hE hX hS (gFree hD hS hA []) (gSub hP []) (gDSub hD [] rfl) rfl rfl hl.1 rfl (lv_room (Nat.le_of_ble_eq_true rfl)) dJ1_charAt_3b067_3 ⟨Nat.le_of_ble_eq_true rfl, Nat.le_of_ble_eq_true rfl⟩) hP hD hS hA [] rfl rfl rfl (fun H locs hw hP hD hS => ?_)
  have hP : va_P g.1 vwCl (List.flatten []) H := hP
  have hD : va_D A (List.flatten []) := hD
  refine lv_aload_n hx hb dJ1_charAt_3b067_6 rfl (lv_at hl 0 rfl) ?_
  refine lv_iload_n hx hb dJ1_charAt_3b067_7 rfl (lv_at hl 1 rfl) ?_
  have h2 := hw.1
  have hw := hw.2
  refine va_tb (v := .int (su_txt x1.toNatClampNeg)) hx hb (hz_su.2.2.2) hS h2 rfl dJ1_charAt_3b067_8 ?_
  refine lv_sipush (v := 255) hx hb dJ1_charAt_3b067_9 (by decide) ?_
  refine lv_iand hx hb dJ1_charAt_3b067_12 ?_
  refine lv_i2c (v := (((su_txt x1.toNatClampNeg) &&& 255).toUInt32 % 65536).toInt32) hx hb dJ1_charAt_3b067_13 rfl ?_
  have h3 := hw.1
  have hw := hw.2
  subst hQ
  exact W.zret (ty := .char) hx hb hr h3 (gRi0 (wf := _) hA0 hsz hw hP hD hS) hS.2.2 dJ1_charAt_3b067_14
abbrev rmJ0_charAt_5068e : Room := { frames := 4, cells := 0, slots := 0, locals := 167 }
set_option maxHeartbeats 4000000 in
set_option maxRecDepth 100000 in
theorem ctJ0_charAt_5068e (l : Launch) (g : GG) (t : GT) (sz : Nat) (k_su : Nat) (su_len : Nat) (su_txt : Nat → Int32) (hk_su : gIs k_su su_len su_txt) (x1 : Int32) {post : Int32 → Prop} (hw : wpJ0_charAt_5068e x1 su_len su_txt post) :
    Met l yJ0_charAt_5068e wsJ0_charAt_5068e rmJ0_charAt_5068e (gPX g t sz (List.flatten []) [.ref (t.1 k_su), .int x1]) (gQi0 post (gB g (List.flatten []) sz (List.flatten [])) (va_A (List.flatten []) sz)) 0 0 (va_A (List.flatten []) sz) := by
  refine gOfX (cc := cJ0_charAt_5068e) (maxL := 2) (ret := (some .char)) (by decide) rfl (Nat.le_of_ble_eq_true rfl) ?_
  intro p e s m below meth c ls Q A hQ hx hb hr hml hts hown hlocks hE hA0 hsz hP hD hA hS hl hX
  have hz_su := hX.str hk_su
  have hl : lv_has ls 2 [(0, .ref (t.1 k_su)), (1, .int x1)] := hl
  refine lv_aload_n hx hb dJ0_charAt_5068e_0 rfl (lv_at hl 0 rfl) ?_
  refine gCi0 (gRunVr (As := []) (rest := []) ⟨hx, hb, hml, hown, hts⟩ (ctJ0_isLatin1_aae02 l g t _ k_su su_len su_txt hk_su hw) (cwV 0 hts gJ0_charAt_5068e_J0_isLatin1_aae02 rfl rfl rfl (by decide +kernel) ⟨Nat.le_of_ble_eq_true rfl, Nat.le_of_ble_eq_true rfl⟩) hE hX hS (gFree hD hS hA []) (gSub hP []) (gDSub hD [] rfl) (hz_su.recv hS) rfl rfl hl.1 rfl (lv_room (Nat.le_of_ble_eq_true rfl)) dJ0_charAt_5068e_1 ⟨Nat.le_of_ble_eq_true rfl, Nat.le_of_ble_eq_true rfl⟩) hP hD hS hA [] rfl rfl rfl (fun r1 H locs hw hP hD hS => ?_)
  have hP : va_P g.1 vwCl (List.flatten []) H := hP
  have hD : va_D A (List.flatten []) := hD
  refine lv_if_eq (tgt := 16) hx hb dJ0_charAt_5068e_4 (by decide) (fun c_4 => (hw.1 c_4).elim) (fun c_4 => ?_)
  have hw := hw.2 c_4
  refine lv_aload_n hx hb dJ0_charAt_5068e_7 rfl (lv_at hl 0 rfl) ?_
  refine vk_getf hx hb (hz_su.2.2.1) hS hown (gW hts 1 (.fieldLink RJ0 9 "java/lang/String" "value" "[B") rfl) (fun _ h9 => h9) dJ0_charAt_5068e_8 ?_
  refine lv_iload_n hx hb dJ0_charAt_5068e_11 rfl (lv_at hl 1 rfl) ?_
  refine gCi0 (gRunSX (As := [.ref (t.2 k_su), .int x1]) (rest := []) ⟨hx, hb, hml, hown, hts⟩ (ctJ1_charAt_3b067 l g t _ k_su su_len su_txt hk_su x1 hw) (va_cwS 2 hts gJ0_charAt_5068e_J1_charAt_3b067 rfl rfl rfl (by decide +kernel) ⟨Nat.le_of_ble_eq_true rfl, Nat.le_of_ble_eq_true rfl⟩) hE hX hS (gFree hD hS hA []) (gSub hP []) (gDSub hD [] rfl) rfl rfl hl.1 rfl (lv_room (Nat.le_of_ble_eq_true rfl)) dJ0_charAt_5068e_12 ⟨Nat.le_of_ble_eq_true rfl, Nat.le_of_ble_eq_true rfl⟩) hP hD hS hA [] rfl rfl rfl (fun r2 H locs hw hP hD hS => ?_)
  have hP : va_P g.1 vwCl (List.flatten []) H := hP
  have hD : va_D A (List.flatten []) := hD
  have h3 := hw.1
  have hw := hw.2
  subst hQ
  exact W.zret (ty := .char) hx hb hr h3 (gRi0 (wf := _) hA0 hsz hw hP hD hS) hS.2.2 dJ0_charAt_5068e_15
abbrev rmX3_formOf : Room := { frames := 1, cells := 0, slots := 0, locals := 100 }
set_option maxHeartbeats 4000000 in
set_option maxRecDepth 100000 in
theorem ctX3_formOf (l : Launch) (g : GG) (t : GT) (sz : Nat) (x0 : Int32) {post : Nat → Prop} (hw : wpX3_formOf x0 post) :
    Met l yX3_formOf wsX3_formOf rmX3_formOf (gPX g t sz (List.flatten []) [.int x0]) (gQs0 post (gB g (List.flatten []) sz (List.flatten [])) t.1 (va_A (List.flatten []) sz)) 0 0 (va_A (List.flatten []) sz) := by
  refine gOfX (cc := cX3_formOf) (maxL := 1) (ret := (some (.object "java/lang/String"))) (by decide) rfl (Nat.le_of_ble_eq_true rfl) ?_
  intro p e s m below meth c ls Q A hQ hx hb hr hml hts hown hlocks hE hA0 hsz hP hD hA hS hl hX
  have hl : lv_has ls 1 [(0, .int x0)] := hl
  refine lv_iload_n hx hb dX3_formOf_0 rfl (lv_at hl 0 rfl) ?_
  by_cases c_1_0 : x0 = 0
  · have hw := hw.1 c_1_0
    refine lv_tableIn (off := 47) (tgt := 48) hx hb dX3_formOf_1 (by rw [c_1_0]; decide) (by rw [c_1_0]; decide) (by rw [c_1_0]; rfl) (by decide) ?_
    refine va_ldcS hx hb hown (hX.txt 0 rfl) dX3_formOf_48 ?_
    subst hQ
    exact W.aret hx hb hr (Or.inl ⟨_, rfl⟩) (Or.inr ⟨_, rfl⟩) (gRs0 (k := 0) (wf := _) hA0 hsz (by decide) hw hP hD hS) hS.2.2 dX3_formOf_50
  · have hw := hw.2 c_1_0
    by_cases c_1_1 : x0 = 1
    · have hw := hw.1 c_1_1
      refine lv_tableIn (off := 50) (tgt := 51) hx hb dX3_formOf_1 (by rw [c_1_1]; decide) (by rw [c_1_1]; decide) (by rw [c_1_1]; rfl) (by decide) ?_
      refine va_ldcS hx hb hown (hX.txt 1 rfl) dX3_formOf_51 ?_
      subst hQ
      exact W.aret hx hb hr (Or.inl ⟨_, rfl⟩) (Or.inr ⟨_, rfl⟩) (gRs0 (k := 1) (wf := _) hA0 hsz (by decide) hw hP hD hS) hS.2.2 dX3_formOf_53
    · have hw := hw.2 c_1_1
      by_cases c_1_2 : x0 = 2
      · have hw := hw.1 c_1_2
        refine lv_tableIn (off := 53) (tgt := 54) hx hb dX3_formOf_1 (by rw [c_1_2]; decide) (by rw [c_1_2]; decide) (by rw [c_1_2]; rfl) (by decide) ?_
        refine va_ldcS hx hb hown (hX.txt 2 rfl) dX3_formOf_54 ?_
        subst hQ
        exact W.aret hx hb hr (Or.inl ⟨_, rfl⟩) (Or.inr ⟨_, rfl⟩) (gRs0 (k := 2) (wf := _) hA0 hsz (by decide) hw hP hD hS) hS.2.2 dX3_formOf_56
      · have hw := hw.2 c_1_2
        by_cases c_1_3 : x0 = 3
        · have hw := hw.1 c_1_3
          refine lv_tableIn (off := 56) (tgt := 57) hx hb dX3_formOf_1 (by rw [c_1_3]; decide) (by rw [c_1_3]; decide) (by rw [c_1_3]; rfl) (by decide) ?_
          refine va_ldcS hx hb hown (hX.txt 3 rfl) dX3_formOf_57 ?_
          subst hQ
          exact W.aret hx hb hr (Or.inl ⟨_, rfl⟩) (Or.inr ⟨_, rfl⟩) (gRs0 (k := 3) (wf := _) hA0 hsz (by decide) hw hP hD hS) hS.2.2 dX3_formOf_59
        · have hw := hw.2 c_1_3
          by_cases c_1_4 : x0 = 4
          · have hw := hw.1 c_1_4
            refine lv_tableIn (off := 59) (tgt := 60) hx hb dX3_formOf_1 (by rw [c_1_4]; decide) (by rw [c_1_4]; decide) (by rw [c_1_4]; rfl) (by decide) ?_
            refine va_ldcS hx hb hown (hX.txt 4 rfl) dX3_formOf_60 ?_
            subst hQ
            exact W.aret hx hb hr (Or.inl ⟨_, rfl⟩) (Or.inr ⟨_, rfl⟩) (gRs0 (k := 4) (wf := _) hA0 hsz (by decide) hw hP hD hS) hS.2.2 dX3_formOf_62
          · have hw := hw.2 c_1_4
            by_cases c_1_5 : x0 = 5
            · have hw := hw.1 c_1_5
              refine lv_tableIn (off := 62) (tgt := 63) hx hb dX3_formOf_1 (by rw [c_1_5]; decide) (by rw [c_1_5]; decide) (by rw [c_1_5]; rfl) (by decide) ?_
              refine va_ldcS hx hb hown (hX.txt 5 rfl) dX3_formOf_63 ?_
              subst hQ
              exact W.aret hx hb hr (Or.inl ⟨_, rfl⟩) (Or.inr ⟨_, rfl⟩) (gRs0 (k := 5) (wf := _) hA0 hsz (by decide) hw hP hD hS) hS.2.2 dX3_formOf_65
            · have hw := hw.2 c_1_5
              by_cases c_1_6 : x0 = 6
              · have hw := hw.1 c_1_6
                refine lv_tableIn (off := 65) (tgt := 66) hx hb dX3_formOf_1 (by rw [c_1_6]; decide) (by rw [c_1_6]; decide) (by rw [c_1_6]; rfl) (by decide) ?_
                refine va_ldcS hx hb hown (hX.txt 6 rfl) dX3_formOf_66 ?_
                subst hQ
                exact W.aret hx hb hr (Or.inl ⟨_, rfl⟩) (Or.inr ⟨_, rfl⟩) (gRs0 (k := 6) (wf := _) hA0 hsz (by decide) hw hP hD hS) hS.2.2 dX3_formOf_68
              · have hw := hw.2 c_1_6
                by_cases c_1_7 : x0 = 7
                · have hw := hw.1 c_1_7
                  refine lv_tableIn (off := 68) (tgt := 69) hx hb dX3_formOf_1 (by rw [c_1_7]; decide) (by rw [c_1_7]; decide) (by rw [c_1_7]; rfl) (by decide) ?_
                  refine va_ldcS hx hb hown (hX.txt 7 rfl) dX3_formOf_69 ?_
                  subst hQ
                  exact W.aret hx hb hr (Or.inl ⟨_, rfl⟩) (Or.inr ⟨_, rfl⟩) (gRs0 (k := 7) (wf := _) hA0 hsz (by decide) hw hP hD hS) hS.2.2 dX3_formOf_71
                · have hw := hw.2 c_1_7
                  refine lv_tableOut (tgt := 72) hx hb dX3_formOf_1 ?hto (by decide) ?_
                  case hto =>
                    refine gTab (fun z h1 h2 => ?_)
                    have h3 : z = 0 ∨ z = 1 ∨ z = 2 ∨ z = 3 ∨ z = 4 ∨ z = 5 ∨ z = 6 ∨ z = 7 := by omega
                    rcases h3 with rfl | rfl | rfl | rfl | rfl | rfl | rfl | rfl
                    · exact lv_neT c_1_0 rfl
                    · exact lv_neT c_1_1 rfl
                    · exact lv_neT c_1_2 rfl
                    · exact lv_neT c_1_3 rfl
                    · exact lv_neT c_1_4 rfl
                    · exact lv_neT c_1_5 rfl
                    · exact lv_neT c_1_6 rfl
                    · exact lv_neT c_1_7 rfl
                  refine va_ldcS hx hb hown (hX.txt 8 rfl) dX3_formOf_72 ?_
                  subst hQ
                  exact W.aret hx hb hr (Or.inl ⟨_, rfl⟩) (Or.inr ⟨_, rfl⟩) (gRs0 (k := 8) (wf := _) hA0 hsz (by decide) hw hP hD hS) hS.2.2 dX3_formOf_74
abbrev rmX3_signAt : Room := { frames := 5, cells := 0, slots := 0, locals := 192 }
set_option maxRecDepth 20000 in
theorem inX3_signAt_J4 : ∀ w ∈ wsJ40, w ∈ wsX3_signAt := by decide +kernel
set_option maxRecDepth 20000 in
theorem inX3_signAt_X3 : ∀ w ∈ wsX30, w ∈ wsX3_signAt := by decide +kernel
set_option maxHeartbeats 4000000 in
set_option maxRecDepth 100000 in
theorem ctX3_signAt (l : Launch) (g : GG) (t : GT) (a_sc : Nat → Nat) (a_tb : Nat → Nat) (sz : Nat) (c_values : Nat → Int32) (c_at : Int32) (c_verb : Int32) (b_mlt : Int32) (b_countt : Int32) (b_att : Nat → Nat) (b_capt : Nat) (b_bytest : Nat → Int32) (x1 : Int32) {post : Int32 → Prop} (hw : wpX3_signAt x1 b_countt b_capt b_bytest post) :
    Met l yX3_signAt wsX3_signAt rmX3_signAt (gPX g t sz (List.flatten [kSc g a_sc a_tb c_values c_at c_verb, kSO g a_tb b_att b_mlt b_countt, kBa g b_att b_capt b_bytest]) [.ref (a_sc 0), .int x1]) (gQi0 post (gB g (List.flatten [kSc g a_sc a_tb c_values c_at c_verb, kSO g a_tb b_att b_mlt b_countt, kBa g b_att b_capt b_bytest]) sz (List.flatten [kSc g a_sc a_tb c_values c_at c_verb, kSO g a_tb b_att b_mlt b_countt, kBa g b_att b_capt b_bytest])) (va_A (List.flatten [kSc g a_sc a_tb c_values c_at c_verb, kSO g a_tb b_att b_mlt b_countt, kBa g b_att b_capt b_bytest]) sz)) 0 0 (va_A (List.flatten [kSc g a_sc a_tb c_values c_at c_verb, kSO g a_tb b_att b_mlt b_countt, kBa g b_att b_capt b_bytest]) sz) := by
  refine gOfX (cc := cX3_signAt) (maxL := 2) (ret := (some .char)) (by decide) rfl (Nat.le_of_ble_eq_true rfl) ?_
  intro p e s m below meth c ls Q A hQ hx hb hr hml hts hown hlocks hE hA0 hsz hP hD hA hS hl hX
  have hl : lv_has ls 2 [(0, .ref (a_sc 0)), (1, .int x1)] := hl
  refine lv_iload_n hx hb dX3_signAt_0 rfl (lv_at hl 1 rfl) ?_
  refine lv_if_lt (tgt := 26) hx hb dX3_signAt_1 (by decide) (fun c_1 => ?_) (fun c_1 => ?_)
  · have hw := hw.1 c_1
    refine lv_iconst (v := 0) hx hb dX3_signAt_26 (by decide) ?_
    subst hQ
    exact W.zret (ty := .char) hx hb hr (by decide) (gRi0 (wf := _) hA0 hsz hw hP hD hS) hS.2.2 dX3_signAt_27
  · have hw := hw.2 c_1
    refine lv_iload_n hx hb dX3_signAt_4 rfl (lv_at hl 1 rfl) ?_
    refine lv_aload_n hx hb dX3_signAt_5 rfl (lv_at hl 0 rfl) ?_
    refine va_get (D := g.1) (ci := 7) (v := .ref (a_tb 0)) (C := RX3) (T := TX3) (N := 4) hx hb hts inX3_signAt_X3 hown hE.1 hP 0 rfl rfl 0 (by decide) (gW hts 1 (.fieldLink RX3 12 "SnowDispatcher$Script" "text" "Ljava/lang/StringBuilder;") rfl) (fun _ h9 => h9) rfl dX3_signAt_6 ?_
    refine gCi0 (gRunV (As := []) (rest := [.int x1]) ⟨hx, hb, hml, hown, hts⟩ (ctJ4_length_8abf5 l g a_tb b_att _ b_mlt b_countt hw) (cwV 0 hts gX3_signAt_J4_length_8abf5 rfl rfl rfl (by decide +kernel) ⟨Nat.le_of_ble_eq_true rfl, Nat.le_of_ble_eq_true rfl⟩) hE (gSub hP [1]) (gDSub hD [1] rfl) 0 1 rfl rfl rfl rfl rfl hl.1 rfl (lv_room (Nat.le_of_ble_eq_true rfl)) dX3_signAt_9 ⟨Nat.le_of_ble_eq_true rfl, Nat.le_of_ble_eq_true rfl⟩) hP hD hS hA [1] rfl rfl rfl (fun r1 H locs hw hP hD hS => ?_)
    have hP : va_P g.1 vwCl (List.flatten [kSc g a_sc a_tb c_values c_at c_verb, kSO g a_tb b_att b_mlt b_countt, kBa g b_att b_capt b_bytest]) H := hP
    have hD : va_D A (List.flatten [kSc g a_sc a_tb c_values c_at c_verb, kSO g a_tb b_att b_mlt b_countt, kBa g b_att b_capt b_bytest]) := hD
    refine lv_icmp_ge (tgt := 26) hx hb dX3_signAt_12 (by decide) (fun c_12 => ?_) (fun c_12 => ?_)
    · have hw := hw.1 c_12
      refine lv_iconst (v := 0) hx hb dX3_signAt_26 (by decide) ?_
      subst hQ
      exact W.zret (ty := .char) hx hb hr (by decide) (gRi0 (wf := _) hA0 hsz hw hP hD hS) hS.2.2 dX3_signAt_27
    · have hw := hw.2 c_12
      refine lv_aload_n hx hb dX3_signAt_15 rfl (lv_at hl 0 rfl) ?_
      refine va_get (D := g.1) (ci := 7) (v := .ref (a_tb 0)) (C := RX3) (T := TX3) (N := 4) hx hb hts inX3_signAt_X3 hown hE.1 hP 0 rfl rfl 0 (by decide) (gW hts 1 (.fieldLink RX3 12 "SnowDispatcher$Script" "text" "Ljava/lang/StringBuilder;") rfl) (fun _ h9 => h9) rfl dX3_signAt_16 ?_
      refine lv_iload_n hx hb dX3_signAt_19 rfl (lv_at hl 1 rfl) ?_
      refine gCi0 (gRunVX (As := [.int x1]) (rest := []) ⟨hx, hb, hml, hown, hts⟩ (ctJ4_charAt_5068e l g t a_tb _ b_mlt b_countt b_att b_capt b_bytest x1 hw) (cwV 1 hts gX3_signAt_J4_charAt_5068e rfl rfl rfl (by decide +kernel) ⟨Nat.le_of_ble_eq_true rfl, Nat.le_of_ble_eq_true rfl⟩) hE hX hS (gFree hD hS hA [1, 2]) (gSub hP [1, 2]) (gDSub hD [1, 2] rfl) 0 1 rfl rfl rfl rfl rfl hl.1 rfl (lv_room (Nat.le_of_ble_eq_true rfl)) dX3_signAt_20 ⟨Nat.le_of_ble_eq_true rfl, Nat.le_of_ble_eq_true rfl⟩) hP hD hS hA [1, 2] rfl rfl rfl (fun r2 H locs hw hP hD hS => ?_)
      have hP : va_P g.1 vwCl (List.flatten [kSc g a_sc a_tb c_values c_at c_verb, kSO g a_tb b_att b_mlt b_countt, kBa g b_att b_capt b_bytest]) H := hP
      have hD : va_D A (List.flatten [kSc g a_sc a_tb c_values c_at c_verb, kSO g a_tb b_att b_mlt b_countt, kBa g b_att b_capt b_bytest]) := hD
      refine lv_goto (tgt := 27) hx hb dX3_signAt_23 (by decide) ?_
      have h3 := hw.1
      have hw := hw.2
      subst hQ
      exact W.zret (ty := .char) hx hb hr h3 (gRi0 (wf := _) hA0 hsz hw hP hD hS) hS.2.2 dX3_signAt_27
abbrev rmX3_isDigit : Room := { frames := 1, cells := 0, slots := 0, locals := 100 }
set_option maxHeartbeats 4000000 in
set_option maxRecDepth 100000 in
theorem ctX3_isDigit (l : Launch) (g : GG) (sz : Nat) (x0 : Int32) {post : Int32 → Prop} (hw : wpX3_isDigit x0 post) :
    Met l yX3_isDigit wsX3_isDigit rmX3_isDigit (gPc g sz (List.flatten []) [.int x0]) (gQi0 post (gB g (List.flatten []) sz (List.flatten [])) (va_A (List.flatten []) sz)) 0 0 (va_A (List.flatten []) sz) := by
  refine gOf (cc := cX3_isDigit) (maxL := 1) (ret := (some .boolean)) (by decide) rfl (Nat.le_of_ble_eq_true rfl) ?_
  intro p e s m below meth c ls Q A hQ hx hb hr hml hts hown hlocks hE hA0 hsz hP hD hA hS hl
  have hl : lv_has ls 1 [(0, .int x0)] := hl
  refine lv_iload_n hx hb dX3_isDigit_0 rfl (lv_at hl 0 rfl) ?_
  refine lv_bipush (v := 48) hx hb dX3_isDigit_1 (by decide) ?_
  refine lv_icmp_lt (tgt := 16) hx hb dX3_isDigit_3 (by decide) (fun c_3 => ?_) (fun c_3 => ?_)
  · have hw := hw.1 c_3
    refine lv_iconst (v := 0) hx hb dX3_isDigit_16 (by decide) ?_
    subst hQ
    exact W.zret (ty := .boolean) hx hb hr (by decide) (gRi0 (wf := _) hA0 hsz hw hP hD hS) hS.2.2 dX3_isDigit_17
  · have hw := hw.2 c_3
    refine lv_iload_n hx hb dX3_isDigit_6 rfl (lv_at hl 0 rfl) ?_
    refine lv_bipush (v := 57) hx hb dX3_isDigit_7 (by decide) ?_
    refine lv_icmp_gt (tgt := 16) hx hb dX3_isDigit_9 (by decide) (fun c_9 => ?_) (fun c_9 => ?_)
    · have hw := hw.1 c_9
      refine lv_iconst (v := 0) hx hb dX3_isDigit_16 (by decide) ?_
      subst hQ
      exact W.zret (ty := .boolean) hx hb hr (by decide) (gRi0 (wf := _) hA0 hsz hw hP hD hS) hS.2.2 dX3_isDigit_17
    · have hw := hw.2 c_9
      refine lv_iconst (v := 1) hx hb dX3_isDigit_12 (by decide) ?_
      refine lv_goto (tgt := 17) hx hb dX3_isDigit_13 (by decide) ?_
      subst hQ
      exact W.zret (ty := .boolean) hx hb hr (by decide) (gRi0 (wf := _) hA0 hsz hw hP hD hS) hS.2.2 dX3_isDigit_17
abbrev rmX3_fits : Room := { frames := 2, cells := 0, slots := 0, locals := 121 }
set_option maxHeartbeats 4000000 in
set_option maxRecDepth 100000 in
theorem ctX3_fits (l : Launch) (g : GG) (sz : Nat) (x0 : Int32) (x1 : Int32) {post : Int32 → Prop} (hw : wpX3_fits x0 x1 post) :
    Met l yX3_fits wsX3_fits rmX3_fits (gPc g sz (List.flatten []) [.int x0, .int x1]) (gQi0 post (gB g (List.flatten []) sz (List.flatten [])) (va_A (List.flatten []) sz)) 0 0 (va_A (List.flatten []) sz) := by
  refine gOf (cc := cX3_fits) (maxL := 2) (ret := (some .boolean)) (by decide) rfl (Nat.le_of_ble_eq_true rfl) ?_
  intro p e s m below meth c ls Q A hQ hx hb hr hml hts hown hlocks hE hA0 hsz hP hD hA hS hl
  have hl : lv_has ls 2 [(0, .int x0), (1, .int x1)] := hl
  refine lv_iload_n hx hb dX3_fits_0 rfl (lv_at hl 0 rfl) ?_
  refine lv_bipush (v := 35) hx hb dX3_fits_1 (by decide) ?_
  refine lv_icmp_eq (tgt := 12) hx hb dX3_fits_3 (by decide) (fun c_3 => ?_) (fun c_3 => ?_)
  · have hw := hw.1 c_3
    refine lv_iload_n hx hb dX3_fits_12 rfl (lv_at hl 1 rfl) ?_
    refine gCi0 (gRunS (As := [.int x1]) (rest := []) ⟨hx, hb, hml, hown, hts⟩ (ctX3_isDigit l g _ x1 hw) (va_cwS 1 hts gX3_fits_X3_isDigit rfl rfl rfl (by decide +kernel) ⟨Nat.le_of_ble_eq_true rfl, Nat.le_of_ble_eq_true rfl⟩) hE (gSub hP []) (gDSub hD [] rfl) rfl rfl hl.1 rfl (lv_room (Nat.le_of_ble_eq_true rfl)) dX3_fits_13 ⟨Nat.le_of_ble_eq_true rfl, Nat.le_of_ble_eq_true rfl⟩) hP hD hS hA [] rfl rfl rfl (fun r1 H locs hw hP hD hS => ?_)
    have hP : va_P g.1 vwCl (List.flatten []) H := hP
    have hD : va_D A (List.flatten []) := hD
    have h2 := hw.1
    have hw := hw.2
    subst hQ
    exact W.zret (ty := .boolean) hx hb hr h2 (gRi0 (wf := _) hA0 hsz hw hP hD hS) hS.2.2 dX3_fits_16
  · have hw := hw.2 c_3
    refine lv_iload_n hx hb dX3_fits_6 rfl (lv_at hl 0 rfl) ?_
    refine lv_bipush (v := 37) hx hb dX3_fits_7 (by decide) ?_
    refine lv_icmp_ne (tgt := 17) hx hb dX3_fits_9 (by decide) (fun c_9 => ?_) (fun c_9 => ?_)
    · have hw := hw.1 c_9
      refine lv_iload_n hx hb dX3_fits_17 rfl (lv_at hl 0 rfl) ?_
      refine lv_bipush (v := 64) hx hb dX3_fits_18 (by decide) ?_
      refine lv_icmp_ne (tgt := 41) hx hb dX3_fits_20 (by decide) (fun c_20 => ?_) (fun c_20 => ?_)
      · have hw := hw.1 c_20
        refine lv_iload_n hx hb dX3_fits_41 rfl (lv_at hl 1 rfl) ?_
        refine lv_iload_n hx hb dX3_fits_42 rfl (lv_at hl 0 rfl) ?_
        refine lv_icmp_ne (tgt := 50) hx hb dX3_fits_43 (by decide) (fun c_43 => ?_) (fun c_43 => ?_)
        · have hw := hw.1 c_43
          refine lv_iconst (v := 0) hx hb dX3_fits_50 (by decide) ?_
          subst hQ
          exact W.zret (ty := .boolean) hx hb hr (by decide) (gRi0 (wf := _) hA0 hsz hw hP hD hS) hS.2.2 dX3_fits_51
        · have hw := hw.2 c_43
          refine lv_iconst (v := 1) hx hb dX3_fits_46 (by decide) ?_
          refine lv_goto (tgt := 51) hx hb dX3_fits_47 (by decide) ?_
          subst hQ
          exact W.zret (ty := .boolean) hx hb hr (by decide) (gRi0 (wf := _) hA0 hsz hw hP hD hS) hS.2.2 dX3_fits_51
      · have hw := hw.2 c_20
        refine lv_iload_n hx hb dX3_fits_23 rfl (lv_at hl 1 rfl) ?_
        refine lv_bipush (v := 97) hx hb dX3_fits_24 (by decide) ?_
        refine lv_icmp_lt (tgt := 39) hx hb dX3_fits_26 (by decide) (fun c_26 => ?_) (fun c_26 => ?_)
        · have hw := hw.1 c_26
          refine lv_iconst (v := 0) hx hb dX3_fits_39 (by decide) ?_
          subst hQ
          exact W.zret (ty := .boolean) hx hb hr (by decide) (gRi0 (wf := _) hA0 hsz hw hP hD hS) hS.2.2 dX3_fits_40
        · have hw := hw.2 c_26
          refine lv_iload_n hx hb dX3_fits_29 rfl (lv_at hl 1 rfl) ?_
          refine lv_bipush (v := 99) hx hb dX3_fits_30 (by decide) ?_
          refine lv_icmp_gt (tgt := 39) hx hb dX3_fits_32 (by decide) (fun c_32 => ?_) (fun c_32 => ?_)
          · have hw := hw.1 c_32
            refine lv_iconst (v := 0) hx hb dX3_fits_39 (by decide) ?_
            subst hQ
            exact W.zret (ty := .boolean) hx hb hr (by decide) (gRi0 (wf := _) hA0 hsz hw hP hD hS) hS.2.2 dX3_fits_40
          · have hw := hw.2 c_32
            refine lv_iconst (v := 1) hx hb dX3_fits_35 (by decide) ?_
            refine lv_goto (tgt := 40) hx hb dX3_fits_36 (by decide) ?_
            subst hQ
            exact W.zret (ty := .boolean) hx hb hr (by decide) (gRi0 (wf := _) hA0 hsz hw hP hD hS) hS.2.2 dX3_fits_40
    · have hw := hw.2 c_9
      refine lv_iload_n hx hb dX3_fits_12 rfl (lv_at hl 1 rfl) ?_
      refine gCi0 (gRunS (As := [.int x1]) (rest := []) ⟨hx, hb, hml, hown, hts⟩ (ctX3_isDigit l g _ x1 hw) (va_cwS 1 hts gX3_fits_X3_isDigit rfl rfl rfl (by decide +kernel) ⟨Nat.le_of_ble_eq_true rfl, Nat.le_of_ble_eq_true rfl⟩) hE (gSub hP []) (gDSub hD [] rfl) rfl rfl hl.1 rfl (lv_room (Nat.le_of_ble_eq_true rfl)) dX3_fits_13 ⟨Nat.le_of_ble_eq_true rfl, Nat.le_of_ble_eq_true rfl⟩) hP hD hS hA [] rfl rfl rfl (fun r3 H locs hw hP hD hS => ?_)
      have hP : va_P g.1 vwCl (List.flatten []) H := hP
      have hD : va_D A (List.flatten []) := hD
      have h4 := hw.1
      have hw := hw.2
      subst hQ
      exact W.zret (ty := .boolean) hx hb hr h4 (gRi0 (wf := _) hA0 hsz hw hP hD hS) hS.2.2 dX3_fits_16
abbrev rmX3_fittingSigns : Room := { frames := 6, cells := 0, slots := 0, locals := 214 }
set_option maxRecDepth 20000 in
theorem inX3_fittingSigns_J4 : ∀ w ∈ wsJ40, w ∈ wsX3_fittingSigns := by decide +kernel
set_option maxRecDepth 20000 in
theorem inX3_fittingSigns_X3 : ∀ w ∈ wsX30, w ∈ wsX3_fittingSigns := by decide +kernel
set_option maxHeartbeats 4000000 in
set_option maxRecDepth 100000 in
theorem ctX3_fittingSigns (l : Launch) (g : GG) (t : GT) (a_sc : Nat → Nat) (a_tb : Nat → Nat) (sz : Nat) (c_values : Nat → Int32) (c_at : Int32) (c_verb : Int32) (b_mlt : Int32) (b_countt : Int32) (b_att : Nat → Nat) (b_capt : Nat) (b_bytest : Nat → Int32) (k_su : Nat) (su_len : Nat) (su_txt : Nat → Int32) (hk_su : gIs k_su su_len su_txt) {post : Int32 → Prop} (hw : wpX3_fittingSigns su_len su_txt c_at b_countt b_capt b_bytest post) :
    Met l yX3_fittingSigns wsX3_fittingSigns rmX3_fittingSigns (gPX g t sz (List.flatten [kSc g a_sc a_tb c_values c_at c_verb, kSO g a_tb b_att b_mlt b_countt, kBa g b_att b_capt b_bytest]) [.ref (a_sc 0), .ref (t.1 k_su)]) (gQi0 post (gB g (List.flatten [kSc g a_sc a_tb c_values c_at c_verb, kSO g a_tb b_att b_mlt b_countt, kBa g b_att b_capt b_bytest]) sz (List.flatten [kSc g a_sc a_tb c_values c_at c_verb, kSO g a_tb b_att b_mlt b_countt, kBa g b_att b_capt b_bytest])) (va_A (List.flatten [kSc g a_sc a_tb c_values c_at c_verb, kSO g a_tb b_att b_mlt b_countt, kBa g b_att b_capt b_bytest]) sz)) 0 0 (va_A (List.flatten [kSc g a_sc a_tb c_values c_at c_verb, kSO g a_tb b_att b_mlt b_countt, kBa g b_att b_capt b_bytest]) sz) := by
  refine gOfX (cc := cX3_fittingSigns) (maxL := 3) (ret := (some .int)) (by decide) rfl (Nat.le_of_ble_eq_true rfl) ?_
  intro p e s m below meth c ls Q A hQ hx hb hr hml hts hown hlocks hE hA0 hsz hP hD hA hS hl hX
  have hz_su := hX.str hk_su
  have hl : lv_has ls 3 [(0, .ref (a_sc 0)), (1, .ref (t.1 k_su))] := hl
  have L2 : ∀ (n : Nat) (x2_2 : Int32) (H : Heap) (locs : List Loc) (ls : Array Slot), wpX3_fittingSigns_L2 su_len su_txt c_at b_countt b_capt b_bytest post n x2_2 → va_P g.1 vwCl (List.flatten [kSc g a_sc a_tb c_values c_at c_verb, kSO g a_tb b_att b_mlt b_countt, kBa g b_att b_capt b_bytest]) H → va_D A (List.flatten [kSc g a_sc a_tb c_values c_at c_verb, kSO g a_tb b_att b_mlt b_countt, kBa g b_att b_capt b_bytest]) → va_S A s.heap H locs → lv_has ls 3 [(0, .ref (a_sc 0)), (1, .ref (t.1 k_su)), (2, .int x2_2)] → W p l e rmX3_fittingSigns s m (([.ref (a_sc 0), .ref (t.1 k_su)] : List Value).toArray) below meth c H locs 0 0 Q (F0 m 2 ls []) := by
    intro n_2
    induction n_2 with
    | zero => intro x2_2 H locs ls hw; exact False.elim hw
    | succ n_2 ih_2 =>
      intro x2_2 H locs ls hw hP hD hS hl
      refine lv_iload_n hx hb dX3_fittingSigns_2 rfl (lv_at hl 2 rfl) ?_
      refine lv_aload_n hx hb dX3_fittingSigns_3 rfl (lv_at hl 1 rfl) ?_
      refine gCi0 (gRunVr (As := []) (rest := [.int x2_2]) ⟨hx, hb, hml, hown, hts⟩ (ctJ0_length_8abf5 l g t _ k_su su_len su_txt hk_su hw) (cwV 0 hts gX3_fittingSigns_J0_length_8abf5 rfl rfl rfl (by decide +kernel) ⟨Nat.le_of_ble_eq_true rfl, Nat.le_of_ble_eq_true rfl⟩) hE hX hS (gFree hD hS hA []) (gSub hP []) (gDSub hD [] rfl) (hz_su.recv hS) rfl rfl hl.1 rfl (lv_room (Nat.le_of_ble_eq_true rfl)) dX3_fittingSigns_4 ⟨Nat.le_of_ble_eq_true rfl, Nat.le_of_ble_eq_true rfl⟩) hP hD hS hA [] rfl rfl rfl (fun r1 H locs hw hP hD hS => ?_)
      have hP : va_P g.1 vwCl (List.flatten [kSc g a_sc a_tb c_values c_at c_verb, kSO g a_tb b_att b_mlt b_countt, kBa g b_att b_capt b_bytest]) H := hP
      have hD : va_D A (List.flatten [kSc g a_sc a_tb c_values c_at c_verb, kSO g a_tb b_att b_mlt b_countt, kBa g b_att b_capt b_bytest]) := hD
      refine lv_icmp_ge (tgt := 39) hx hb dX3_fittingSigns_7 (by decide) (fun c_7 => ?_) (fun c_7 => ?_)
      · have hw := hw.1 c_7
        refine lv_aload_n hx hb dX3_fittingSigns_39 rfl (lv_at hl 1 rfl) ?_
        refine gCi0 (gRunVr (As := []) (rest := []) ⟨hx, hb, hml, hown, hts⟩ (ctJ0_length_8abf5 l g t _ k_su su_len su_txt hk_su hw) (cwV 0 hts gX3_fittingSigns_J0_length_8abf5 rfl rfl rfl (by decide +kernel) ⟨Nat.le_of_ble_eq_true rfl, Nat.le_of_ble_eq_true rfl⟩) hE hX hS (gFree hD hS hA []) (gSub hP []) (gDSub hD [] rfl) (hz_su.recv hS) rfl rfl hl.1 rfl (lv_room (Nat.le_of_ble_eq_true rfl)) dX3_fittingSigns_40 ⟨Nat.le_of_ble_eq_true rfl, Nat.le_of_ble_eq_true rfl⟩) hP hD hS hA [] rfl rfl rfl (fun r2 H locs hw hP hD hS => ?_)
        have hP : va_P g.1 vwCl (List.flatten [kSc g a_sc a_tb c_values c_at c_verb, kSO g a_tb b_att b_mlt b_countt, kBa g b_att b_capt b_bytest]) H := hP
        have hD : va_D A (List.flatten [kSc g a_sc a_tb c_values c_at c_verb, kSO g a_tb b_att b_mlt b_countt, kBa g b_att b_capt b_bytest]) := hD
        subst hQ
        exact W.iret hx hb hr (gRi0 (wf := _) hA0 hsz hw hP hD hS) hS.2.2 dX3_fittingSigns_43
      · have hw := hw.2 c_7
        refine lv_aload_n hx hb dX3_fittingSigns_10 rfl (lv_at hl 1 rfl) ?_
        refine lv_iload_n hx hb dX3_fittingSigns_11 rfl (lv_at hl 2 rfl) ?_
        refine gCi0 (gRunVr (As := [.int x2_2]) (rest := []) ⟨hx, hb, hml, hown, hts⟩ (ctJ0_charAt_5068e l g t _ k_su su_len su_txt hk_su x2_2 hw) (cwV 1 hts gX3_fittingSigns_J0_charAt_5068e rfl rfl rfl (by decide +kernel) ⟨Nat.le_of_ble_eq_true rfl, Nat.le_of_ble_eq_true rfl⟩) hE hX hS (gFree hD hS hA []) (gSub hP []) (gDSub hD [] rfl) (hz_su.recv hS) rfl rfl hl.1 rfl (lv_room (Nat.le_of_ble_eq_true rfl)) dX3_fittingSigns_12 ⟨Nat.le_of_ble_eq_true rfl, Nat.le_of_ble_eq_true rfl⟩) hP hD hS hA [] rfl rfl rfl (fun r3 H locs hw hP hD hS => ?_)
        have hP : va_P g.1 vwCl (List.flatten [kSc g a_sc a_tb c_values c_at c_verb, kSO g a_tb b_att b_mlt b_countt, kBa g b_att b_capt b_bytest]) H := hP
        have hD : va_D A (List.flatten [kSc g a_sc a_tb c_values c_at c_verb, kSO g a_tb b_att b_mlt b_countt, kBa g b_att b_capt b_bytest]) := hD
        refine lv_aload_n hx hb dX3_fittingSigns_15 rfl (lv_at hl 0 rfl) ?_
        refine lv_aload_n hx hb dX3_fittingSigns_16 rfl (lv_at hl 0 rfl) ?_
        refine va_get (D := g.1) (ci := 7) (v := .int c_at) (C := RX3) (T := TX3) (N := 4) hx hb hts inX3_fittingSigns_X3 hown hE.1 hP 0 rfl rfl 2 (by decide) (gW hts 1 (.fieldLink RX3 40 "SnowDispatcher$Script" "at" "I") rfl) (fun _ h9 => h9) rfl dX3_fittingSigns_17 ?_
        refine lv_iload_n hx hb dX3_fittingSigns_20 rfl (lv_at hl 2 rfl) ?_
        refine lv_iadd hx hb dX3_fittingSigns_21 ?_
        refine gCi0 (gRunVX (As := [.int (c_at + x2_2)]) (rest := [.int r3]) ⟨hx, hb, hml, hown, hts⟩ (ctX3_signAt l g t a_sc a_tb _ c_values c_at c_verb b_mlt b_countt b_att b_capt b_bytest (c_at + x2_2) hw) (cwV 1 hts gX3_fittingSigns_X3_signAt rfl rfl rfl (by decide +kernel) ⟨Nat.le_of_ble_eq_true rfl, Nat.le_of_ble_eq_true rfl⟩) hE hX hS (gFree hD hS hA [0, 1, 2]) (gSub hP [0, 1, 2]) (gDSub hD [0, 1, 2] rfl) 0 7 rfl rfl rfl rfl rfl hl.1 rfl (lv_room (Nat.le_of_ble_eq_true rfl)) dX3_fittingSigns_22 ⟨Nat.le_of_ble_eq_true rfl, Nat.le_of_ble_eq_true rfl⟩) hP hD hS hA [0, 1, 2] rfl rfl rfl (fun r4 H locs hw hP hD hS => ?_)
        have hP : va_P g.1 vwCl (List.flatten [kSc g a_sc a_tb c_values c_at c_verb, kSO g a_tb b_att b_mlt b_countt, kBa g b_att b_capt b_bytest]) H := hP
        have hD : va_D A (List.flatten [kSc g a_sc a_tb c_values c_at c_verb, kSO g a_tb b_att b_mlt b_countt, kBa g b_att b_capt b_bytest]) := hD
        refine gCi0 (gRunS (As := [.int r3, .int r4]) (rest := []) ⟨hx, hb, hml, hown, hts⟩ (ctX3_fits l g _ r3 r4 hw) (va_cwS 2 hts gX3_fittingSigns_X3_fits rfl rfl rfl (by decide +kernel) ⟨Nat.le_of_ble_eq_true rfl, Nat.le_of_ble_eq_true rfl⟩) hE (gSub hP []) (gDSub hD [] rfl) rfl rfl hl.1 rfl (lv_room (Nat.le_of_ble_eq_true rfl)) dX3_fittingSigns_25 ⟨Nat.le_of_ble_eq_true rfl, Nat.le_of_ble_eq_true rfl⟩) hP hD hS hA [] rfl rfl rfl (fun r5 H locs hw hP hD hS => ?_)
        have hP : va_P g.1 vwCl (List.flatten [kSc g a_sc a_tb c_values c_at c_verb, kSO g a_tb b_att b_mlt b_countt, kBa g b_att b_capt b_bytest]) H := hP
        have hD : va_D A (List.flatten [kSc g a_sc a_tb c_values c_at c_verb, kSO g a_tb b_att b_mlt b_countt, kBa g b_att b_capt b_bytest]) := hD
        refine lv_if_ne (tgt := 33) hx hb dX3_fittingSigns_28 (by decide) (fun c_28 => ?_) (fun c_28 => ?_)
        · have hw := hw.1 c_28
          refine lv_iinc (v := (x2_2 + 1)) (lv' := [(2, .int (x2_2 + 1)), (0, .ref (a_sc 0)), (1, .ref (t.1 k_su))]) hx hb dX3_fittingSigns_33 hl (k := 2) rfl rfl (by decide) rfl (fun ls hl => ?_)
          refine lv_goto (tgt := 2) hx hb dX3_fittingSigns_36 (by decide) ?_
          exact ih_2 (x2_2 + 1) _ _ _ hw hP hD hS (lv_sub hl [1, 2, 0] rfl)
        · have hw := hw.2 c_28
          refine lv_iload_n hx hb dX3_fittingSigns_31 rfl (lv_at hl 2 rfl) ?_
          subst hQ
          exact W.iret hx hb hr (gRi0 (wf := _) hA0 hsz hw hP hD hS) hS.2.2 dX3_fittingSigns_32
  refine lv_iconst (v := 0) hx hb dX3_fittingSigns_0 (by decide) ?_
  refine lv_istore_n (lv' := [(2, .int 0), (0, .ref (a_sc 0)), (1, .ref (t.1 k_su))]) hx hb dX3_fittingSigns_1 rfl hl (by decide) rfl (fun ls hl => ?_)
  obtain ⟨n, hw⟩ := hw
  exact L2 n 0 _ _ _ hw hP hD hS (lv_sub hl [1, 2, 0] rfl)
abbrev rmX3_readNumber : Room := { frames := 6, cells := 0, slots := 0, locals := 214 }
set_option maxRecDepth 20000 in
theorem inX3_readNumber_J4 : ∀ w ∈ wsJ40, w ∈ wsX3_readNumber := by decide +kernel
set_option maxRecDepth 20000 in
theorem inX3_readNumber_X3 : ∀ w ∈ wsX30, w ∈ wsX3_readNumber := by decide +kernel
set_option maxHeartbeats 4000000 in
set_option maxRecDepth 100000 in
theorem ctX3_readNumber (l : Launch) (g : GG) (t : GT) (a_sc : Nat → Nat) (a_tb : Nat → Nat) (sz : Nat) (c_values : Nat → Int32) (c_at : Int32) (c_verb : Int32) (b_mlt : Int32) (b_countt : Int32) (b_att : Nat → Nat) (b_capt : Nat) (b_bytest : Nat → Int32) {post : Int32 → Int32 → Prop} (hw : wpX3_readNumber c_at b_countt b_capt b_bytest post) :
    Met l yX3_readNumber wsX3_readNumber rmX3_readNumber (gPX g t sz (List.flatten [kSc g a_sc a_tb c_values c_at c_verb, kSO g a_tb b_att b_mlt b_countt, kBa g b_att b_capt b_bytest]) [.ref (a_sc 0)]) (gQi1 post (fun u1 => gB g (List.flatten [kSc g a_sc a_tb c_values c_at c_verb, kSO g a_tb b_att b_mlt b_countt, kBa g b_att b_capt b_bytest]) sz (List.flatten [kSc g a_sc a_tb c_values u1 c_verb, kSO g a_tb b_att b_mlt b_countt, kBa g b_att b_capt b_bytest])) (va_A (List.flatten [kSc g a_sc a_tb c_values c_at c_verb, kSO g a_tb b_att b_mlt b_countt, kBa g b_att b_capt b_bytest]) sz)) 0 0 (va_A (List.flatten [kSc g a_sc a_tb c_values c_at c_verb, kSO g a_tb b_att b_mlt b_countt, kBa g b_att b_capt b_bytest]) sz) := by
  refine gOfX (cc := cX3_readNumber) (maxL := 3) (ret := (some .int)) (by decide) rfl (Nat.le_of_ble_eq_true rfl) ?_
  intro p e s m below meth c ls Q A hQ hx hb hr hml hts hown hlocks hE hA0 hsz hP hD hA hS hl hX
  have hl : lv_has ls 3 [(0, .ref (a_sc 0))] := hl
  have L4 : ∀ (n : Nat) (x1_4 : Int32) (x2_4 : Int32) (c_at_4 : Int32) (H : Heap) (locs : List Loc) (ls : Array Slot), wpX3_readNumber_L4 b_countt b_capt b_bytest post n x1_4 x2_4 c_at_4 → va_P g.1 vwCl (List.flatten [kSc g a_sc a_tb c_values c_at_4 c_verb, kSO g a_tb b_att b_mlt b_countt, kBa g b_att b_capt b_bytest]) H → va_D A (List.flatten [kSc g a_sc a_tb c_values c_at_4 c_verb, kSO g a_tb b_att b_mlt b_countt, kBa g b_att b_capt b_bytest]) → va_S A s.heap H locs → lv_has ls 3 [(0, .ref (a_sc 0)), (1, .int x1_4), (2, .int x2_4)] → W p l e rmX3_readNumber s m (([.ref (a_sc 0)] : List Value).toArray) below meth c H locs 0 0 Q (F0 m 4 ls []) := by
    intro n_4
    induction n_4 with
    | zero => intro x1_4 x2_4 c_at_4 H locs ls hw; exact False.elim hw
    | succ n_4 ih_4 =>
      intro x1_4 x2_4 c_at_4 H locs ls hw hP hD hS hl
      refine lv_iload_n hx hb dX3_readNumber_4 rfl (lv_at hl 2 rfl) ?_
      refine lv_iconst (v := 3) hx hb dX3_readNumber_5 (by decide) ?_
      refine lv_icmp_ge (tgt := 56) hx hb dX3_readNumber_6 (by decide) (fun c_6 => ?_) (fun c_6 => ?_)
      · have hw := hw.1 c_6
        refine lv_iload_n hx hb dX3_readNumber_56 rfl (lv_at hl 1 rfl) ?_
        subst hQ
        exact W.iret hx hb hr (gRi1 (c1 := c_at_4) (wf := _) hA0 hsz hw hP hD hS) hS.2.2 dX3_readNumber_57
      · have hw := hw.2 c_6
        refine lv_aload_n hx hb dX3_readNumber_9 rfl (lv_at hl 0 rfl) ?_
        refine lv_aload_n hx hb dX3_readNumber_10 rfl (lv_at hl 0 rfl) ?_
        refine va_get (D := g.1) (ci := 7) (v := .int c_at_4) (C := RX3) (T := TX3) (N := 4) hx hb hts inX3_readNumber_X3 hown hE.1 hP 0 rfl rfl 2 (by decide) (gW hts 1 (.fieldLink RX3 40 "SnowDispatcher$Script" "at" "I") rfl) (fun _ h9 => h9) rfl dX3_readNumber_11 ?_
        refine gCi0 (gRunVX (As := [.int c_at_4]) (rest := []) ⟨hx, hb, hml, hown, hts⟩ (ctX3_signAt l g t a_sc a_tb _ c_values c_at_4 c_verb b_mlt b_countt b_att b_capt b_bytest c_at_4 hw) (cwV 1 hts gX3_readNumber_X3_signAt rfl rfl rfl (by decide +kernel) ⟨Nat.le_of_ble_eq_true rfl, Nat.le_of_ble_eq_true rfl⟩) hE hX hS (gFree hD hS hA [0, 1, 2]) (gSub hP [0, 1, 2]) (gDSub hD [0, 1, 2] rfl) 0 7 rfl rfl rfl rfl rfl hl.1 rfl (lv_room (Nat.le_of_ble_eq_true rfl)) dX3_readNumber_14 ⟨Nat.le_of_ble_eq_true rfl, Nat.le_of_ble_eq_true rfl⟩) hP hD hS hA [0, 1, 2] rfl rfl rfl (fun r1 H locs hw hP hD hS => ?_)
        have hP : va_P g.1 vwCl (List.flatten [kSc g a_sc a_tb c_values c_at_4 c_verb, kSO g a_tb b_att b_mlt b_countt, kBa g b_att b_capt b_bytest]) H := hP
        have hD : va_D A (List.flatten [kSc g a_sc a_tb c_values c_at_4 c_verb, kSO g a_tb b_att b_mlt b_countt, kBa g b_att b_capt b_bytest]) := hD
        refine gCi0 (gRunS (As := [.int r1]) (rest := []) ⟨hx, hb, hml, hown, hts⟩ (ctX3_isDigit l g _ r1 hw) (va_cwS 1 hts gX3_readNumber_X3_isDigit rfl rfl rfl (by decide +kernel) ⟨Nat.le_of_ble_eq_true rfl, Nat.le_of_ble_eq_true rfl⟩) hE (gSub hP []) (gDSub hD [] rfl) rfl rfl hl.1 rfl (lv_room (Nat.le_of_ble_eq_true rfl)) dX3_readNumber_17 ⟨Nat.le_of_ble_eq_true rfl, Nat.le_of_ble_eq_true rfl⟩) hP hD hS hA [] rfl rfl rfl (fun r2 H locs hw hP hD hS => ?_)
        have hP : va_P g.1 vwCl (List.flatten [kSc g a_sc a_tb c_values c_at_4 c_verb, kSO g a_tb b_att b_mlt b_countt, kBa g b_att b_capt b_bytest]) H := hP
        have hD : va_D A (List.flatten [kSc g a_sc a_tb c_values c_at_4 c_verb, kSO g a_tb b_att b_mlt b_countt, kBa g b_att b_capt b_bytest]) := hD
        refine lv_if_eq (tgt := 56) hx hb dX3_readNumber_20 (by decide) (fun c_20 => ?_) (fun c_20 => ?_)
        · have hw := hw.1 c_20
          refine lv_iload_n hx hb dX3_readNumber_56 rfl (lv_at hl 1 rfl) ?_
          subst hQ
          exact W.iret hx hb hr (gRi1 (c1 := c_at_4) (wf := _) hA0 hsz hw hP hD hS) hS.2.2 dX3_readNumber_57
        · have hw := hw.2 c_20
          refine lv_iload_n hx hb dX3_readNumber_23 rfl (lv_at hl 1 rfl) ?_
          refine lv_bipush (v := 10) hx hb dX3_readNumber_24 (by decide) ?_
          refine lv_imul hx hb dX3_readNumber_26 ?_
          refine lv_aload_n hx hb dX3_readNumber_27 rfl (lv_at hl 0 rfl) ?_
          refine lv_aload_n hx hb dX3_readNumber_28 rfl (lv_at hl 0 rfl) ?_
          refine va_get (D := g.1) (ci := 7) (v := .int c_at_4) (C := RX3) (T := TX3) (N := 4) hx hb hts inX3_readNumber_X3 hown hE.1 hP 0 rfl rfl 2 (by decide) (gW hts 1 (.fieldLink RX3 40 "SnowDispatcher$Script" "at" "I") rfl) (fun _ h9 => h9) rfl dX3_readNumber_29 ?_
          refine gCi0 (gRunVX (As := [.int c_at_4]) (rest := [.int (x1_4 * 10)]) ⟨hx, hb, hml, hown, hts⟩ (ctX3_signAt l g t a_sc a_tb _ c_values c_at_4 c_verb b_mlt b_countt b_att b_capt b_bytest c_at_4 hw) (cwV 1 hts gX3_readNumber_X3_signAt rfl rfl rfl (by decide +kernel) ⟨Nat.le_of_ble_eq_true rfl, Nat.le_of_ble_eq_true rfl⟩) hE hX hS (gFree hD hS hA [0, 1, 2]) (gSub hP [0, 1, 2]) (gDSub hD [0, 1, 2] rfl) 0 7 rfl rfl rfl rfl rfl hl.1 rfl (lv_room (Nat.le_of_ble_eq_true rfl)) dX3_readNumber_32 ⟨Nat.le_of_ble_eq_true rfl, Nat.le_of_ble_eq_true rfl⟩) hP hD hS hA [0, 1, 2] rfl rfl rfl (fun r3 H locs hw hP hD hS => ?_)
          have hP : va_P g.1 vwCl (List.flatten [kSc g a_sc a_tb c_values c_at_4 c_verb, kSO g a_tb b_att b_mlt b_countt, kBa g b_att b_capt b_bytest]) H := hP
          have hD : va_D A (List.flatten [kSc g a_sc a_tb c_values c_at_4 c_verb, kSO g a_tb b_att b_mlt b_countt, kBa g b_att b_capt b_bytest]) := hD
          refine lv_iadd hx hb dX3_readNumber_35 ?_
          refine lv_bipush (v := 48) hx hb dX3_readNumber_36 (by decide) ?_
          refine lv_isub hx hb dX3_readNumber_38 ?_
          refine lv_istore_n (lv' := [(1, .int (((x1_4 * 10) + r3) - 48)), (0, .ref (a_sc 0)), (2, .int x2_4)]) hx hb dX3_readNumber_39 rfl hl (by decide) rfl (fun ls hl => ?_)
          refine lv_aload_n hx hb dX3_readNumber_40 rfl (lv_at hl 1 rfl) ?_
          refine lv_dup hx hb dX3_readNumber_41 rfl ?_
          refine va_get (D := g.1) (ci := 7) (v := .int c_at_4) (C := RX3) (T := TX3) (N := 4) hx hb hts inX3_readNumber_X3 hown hE.1 hP 0 rfl rfl 2 (by decide) (gW hts 1 (.fieldLink RX3 40 "SnowDispatcher$Script" "at" "I") rfl) (fun _ h9 => h9) rfl dX3_readNumber_42 ?_
          refine lv_iconst (v := 1) hx hb dX3_readNumber_45 (by decide) ?_
          refine lv_iadd hx hb dX3_readNumber_46 ?_
          refine va_put (D := g.1) (ci := 7) (v := .int (c_at_4 + 1)) (ty := .int) (C := RX3) (T := TX3) (N := 4) hx hb hts inX3_readNumber_X3 tyX3 tyX3_ok nmX3 hown hE.1 hP hD hS 0 rfl rfl 2 (by decide) (gW hts 1 (.fieldLink RX3 40 "SnowDispatcher$Script" "at" "I") rfl) (fun _ h9 => h9) rfl (by decide +kernel) rfl rfl (Nat.le_of_ble_eq_true rfl) dX3_readNumber_47 (fun H locs hP hD hS => ?_)
          have hP : va_P g.1 vwCl (List.flatten [kSc g a_sc a_tb c_values (c_at_4 + 1) c_verb, kSO g a_tb b_att b_mlt b_countt, kBa g b_att b_capt b_bytest]) H := hP
          have hD : va_D A (List.flatten [kSc g a_sc a_tb c_values (c_at_4 + 1) c_verb, kSO g a_tb b_att b_mlt b_countt, kBa g b_att b_capt b_bytest]) := hD
          refine lv_iinc (v := (x2_4 + 1)) (lv' := [(2, .int (x2_4 + 1)), (1, .int (((x1_4 * 10) + r3) - 48)), (0, .ref (a_sc 0))]) hx hb dX3_readNumber_50 hl (k := 2) rfl rfl (by decide) rfl (fun ls hl => ?_)
          refine lv_goto (tgt := 4) hx hb dX3_readNumber_53 (by decide) ?_
          exact ih_4 (((x1_4 * 10) + r3) - 48) (x2_4 + 1) (c_at_4 + 1) _ _ _ hw hP hD hS (lv_sub hl [2, 1, 0] rfl)
  refine lv_iconst (v := 0) hx hb dX3_readNumber_0 (by decide) ?_
  refine lv_istore_n (lv' := [(1, .int 0), (0, .ref (a_sc 0))]) hx hb dX3_readNumber_1 rfl hl (by decide) rfl (fun ls hl => ?_)
  refine lv_iconst (v := 0) hx hb dX3_readNumber_2 (by decide) ?_
  refine lv_istore_n (lv' := [(2, .int 0), (1, .int 0), (0, .ref (a_sc 0))]) hx hb dX3_readNumber_3 rfl hl (by decide) rfl (fun ls hl => ?_)
  obtain ⟨n, hw⟩ := hw
  exact L4 n 0 0 c_at _ _ _ hw hP hD hS (lv_sub hl [2, 1, 0] rfl)
abbrev rmX3_readValues : Room := { frames := 7, cells := 0, slots := 0, locals := 237 }
set_option maxRecDepth 20000 in
theorem inX3_readValues_J4 : ∀ w ∈ wsJ40, w ∈ wsX3_readValues := by decide +kernel
set_option maxRecDepth 20000 in
theorem inX3_readValues_X3 : ∀ w ∈ wsX30, w ∈ wsX3_readValues := by decide +kernel
set_option maxHeartbeats 4000000 in
set_option maxRecDepth 100000 in
theorem ctX3_readValues (l : Launch) (g : GG) (t : GT) (a_sc : Nat → Nat) (a_tb : Nat → Nat) (sz : Nat) (c_values : Nat → Int32) (c_at : Int32) (c_verb : Int32) (b_mlt : Int32) (b_countt : Int32) (b_att : Nat → Nat) (b_capt : Nat) (b_bytest : Nat → Int32) (k_su : Nat) (su_len : Nat) (su_txt : Nat → Int32) (hk_su : gIs k_su su_len su_txt) {post : (Nat → Int32) → Int32 → Prop} (hw : wpX3_readValues su_len su_txt c_values c_at b_countt b_capt b_bytest post) :
    Met l yX3_readValues wsX3_readValues rmX3_readValues (gPX g t sz (List.flatten [kSc g a_sc a_tb c_values c_at c_verb, kSO g a_tb b_att b_mlt b_countt, kBa g b_att b_capt b_bytest]) [.ref (a_sc 0), .ref (t.1 k_su)]) (gQv2 post (fun u1 u2 => gB g (List.flatten [kSc g a_sc a_tb c_values c_at c_verb, kSO g a_tb b_att b_mlt b_countt, kBa g b_att b_capt b_bytest]) sz (List.flatten [kSc g a_sc a_tb u1 u2 c_verb, kSO g a_tb b_att b_mlt b_countt, kBa g b_att b_capt b_bytest])) (va_A (List.flatten [kSc g a_sc a_tb c_values c_at c_verb, kSO g a_tb b_att b_mlt b_countt, kBa g b_att b_capt b_bytest]) sz)) 0 0 (va_A (List.flatten [kSc g a_sc a_tb c_values c_at c_verb, kSO g a_tb b_att b_mlt b_countt, kBa g b_att b_capt b_bytest]) sz) := by
  refine gOfX (cc := cX3_readValues) (maxL := 5) (ret := none) (by decide) rfl (Nat.le_of_ble_eq_true rfl) ?_
  intro p e s m below meth c ls Q A hQ hx hb hr hml hts hown hlocks hE hA0 hsz hP hD hA hS hl hX
  have hz_su := hX.str hk_su
  have hl : lv_has ls 5 [(0, .ref (a_sc 0)), (1, .ref (t.1 k_su))] := hl
  have L4 : ∀ (n : Nat) (x2_4 : Int32) (x3_4 : Int32) (c_values_4 : Nat → Int32) (c_at_4 : Int32) (H : Heap) (locs : List Loc) (ls : Array Slot), wpX3_readValues_L4 su_len su_txt b_countt b_capt b_bytest post n x2_4 x3_4 c_values_4 c_at_4 → va_P g.1 vwCl (List.flatten [kSc g a_sc a_tb c_values_4 c_at_4 c_verb, kSO g a_tb b_att b_mlt b_countt, kBa g b_att b_capt b_bytest]) H → va_D A (List.flatten [kSc g a_sc a_tb c_values_4 c_at_4 c_verb, kSO g a_tb b_att b_mlt b_countt, kBa g b_att b_capt b_bytest]) → va_S A s.heap H locs → lv_has ls 5 [(0, .ref (a_sc 0)), (1, .ref (t.1 k_su)), (2, .int x2_4), (3, .int x3_4)] → W p l e rmX3_readValues s m (([.ref (a_sc 0), .ref (t.1 k_su)] : List Value).toArray) below meth c H locs 0 0 Q (F0 m 4 ls []) := by
    intro n_4
    induction n_4 with
    | zero => intro x2_4 x3_4 c_values_4 c_at_4 H locs ls hw; exact False.elim hw
    | succ n_4 ih_4 =>
      intro x2_4 x3_4 c_values_4 c_at_4 H locs ls hw hP hD hS hl
      refine lv_iload_n hx hb dX3_readValues_4 rfl (lv_at hl 3 rfl) ?_
      refine lv_aload_n hx hb dX3_readValues_5 rfl (lv_at hl 1 rfl) ?_
      refine gCi0 (gRunVr (As := []) (rest := [.int x3_4]) ⟨hx, hb, hml, hown, hts⟩ (ctJ0_length_8abf5 l g t _ k_su su_len su_txt hk_su hw) (cwV 0 hts gX3_readValues_J0_length_8abf5 rfl rfl rfl (by decide +kernel) ⟨Nat.le_of_ble_eq_true rfl, Nat.le_of_ble_eq_true rfl⟩) hE hX hS (gFree hD hS hA []) (gSub hP []) (gDSub hD [] rfl) (hz_su.recv hS) rfl rfl hl.1 rfl (lv_room (Nat.le_of_ble_eq_true rfl)) dX3_readValues_6 ⟨Nat.le_of_ble_eq_true rfl, Nat.le_of_ble_eq_true rfl⟩) hP hD hS hA [] rfl rfl rfl (fun r1 H locs hw hP hD hS => ?_)
      have hP : va_P g.1 vwCl (List.flatten [kSc g a_sc a_tb c_values_4 c_at_4 c_verb, kSO g a_tb b_att b_mlt b_countt, kBa g b_att b_capt b_bytest]) H := hP
      have hD : va_D A (List.flatten [kSc g a_sc a_tb c_values_4 c_at_4 c_verb, kSO g a_tb b_att b_mlt b_countt, kBa g b_att b_capt b_bytest]) := hD
      refine lv_icmp_ge (tgt := 115) hx hb dX3_readValues_9 (by decide) (fun c_9 => ?_) (fun c_9 => ?_)
      · have hw := hw.1 c_9
        subst hQ
        exact W.vret hx hb hr (gRv2 (c1 := c_values_4) (c2 := c_at_4) (wf := _) hA0 hsz hw hP hD hS) hS.2.2 dX3_readValues_115
      · have hw := hw.2 c_9
        refine lv_iload_n hx hb dX3_readValues_12 rfl (lv_at hl 2 rfl) ?_
        refine lv_iconst (v := 4) hx hb dX3_readValues_13 (by decide) ?_
        refine lv_icmp_ge (tgt := 115) hx hb dX3_readValues_14 (by decide) (fun c_14 => ?_) (fun c_14 => ?_)
        · have hw := hw.1 c_14
          subst hQ
          exact W.vret hx hb hr (gRv2 (c1 := c_values_4) (c2 := c_at_4) (wf := _) hA0 hsz hw hP hD hS) hS.2.2 dX3_readValues_115
        · have hw := hw.2 c_14
          refine lv_aload_n hx hb dX3_readValues_17 rfl (lv_at hl 1 rfl) ?_
          refine lv_iload_n hx hb dX3_readValues_18 rfl (lv_at hl 3 rfl) ?_
          refine gCi0 (gRunVr (As := [.int x3_4]) (rest := []) ⟨hx, hb, hml, hown, hts⟩ (ctJ0_charAt_5068e l g t _ k_su su_len su_txt hk_su x3_4 hw) (cwV 1 hts gX3_readValues_J0_charAt_5068e rfl rfl rfl (by decide +kernel) ⟨Nat.le_of_ble_eq_true rfl, Nat.le_of_ble_eq_true rfl⟩) hE hX hS (gFree hD hS hA []) (gSub hP []) (gDSub hD [] rfl) (hz_su.recv hS) rfl rfl hl.1 rfl (lv_room (Nat.le_of_ble_eq_true rfl)) dX3_readValues_19 ⟨Nat.le_of_ble_eq_true rfl, Nat.le_of_ble_eq_true rfl⟩) hP hD hS hA [] rfl rfl rfl (fun r2 H locs hw hP hD hS => ?_)
          have hP : va_P g.1 vwCl (List.flatten [kSc g a_sc a_tb c_values_4 c_at_4 c_verb, kSO g a_tb b_att b_mlt b_countt, kBa g b_att b_capt b_bytest]) H := hP
          have hD : va_D A (List.flatten [kSc g a_sc a_tb c_values_4 c_at_4 c_verb, kSO g a_tb b_att b_mlt b_countt, kBa g b_att b_capt b_bytest]) := hD
          refine lv_istore (lv' := [(4, .int r2), (0, .ref (a_sc 0)), (1, .ref (t.1 k_su)), (2, .int x2_4), (3, .int x3_4)]) hx hb dX3_readValues_22 hl (by decide) rfl (fun ls hl => ?_)
          refine lv_iload hx hb dX3_readValues_24 (lv_at hl 0 rfl) ?_
          refine lv_bipush (v := 64) hx hb dX3_readValues_26 (by decide) ?_
          refine lv_icmp_ne (tgt := 51) hx hb dX3_readValues_28 (by decide) (fun c_28 => ?_) (fun c_28 => ?_)
          · have hw := hw.1 c_28
            refine lv_iload hx hb dX3_readValues_51 (lv_at hl 0 rfl) ?_
            refine lv_bipush (v := 35) hx hb dX3_readValues_53 (by decide) ?_
            refine lv_icmp_ne (tgt := 81) hx hb dX3_readValues_55 (by decide) (fun c_55 => ?_) (fun c_55 => ?_)
            · have hw := hw.1 c_55
              refine lv_iload hx hb dX3_readValues_81 (lv_at hl 0 rfl) ?_
              refine lv_bipush (v := 37) hx hb dX3_readValues_83 (by decide) ?_
              refine lv_icmp_ne (tgt := 99) hx hb dX3_readValues_85 (by decide) (fun c_85 => ?_) (fun c_85 => ?_)
              · have hw := hw.1 c_85
                refine lv_aload_n hx hb dX3_readValues_99 rfl (lv_at hl 1 rfl) ?_
                refine lv_dup hx hb dX3_readValues_100 rfl ?_
                refine va_get (D := g.1) (ci := 7) (v := .int c_at_4) (C := RX3) (T := TX3) (N := 4) hx hb hts inX3_readValues_X3 hown hE.1 hP 0 rfl rfl 2 (by decide) (gW hts 2 (.fieldLink RX3 40 "SnowDispatcher$Script" "at" "I") rfl) (fun _ h9 => h9) rfl dX3_readValues_101 ?_
                refine lv_iconst (v := 1) hx hb dX3_readValues_104 (by decide) ?_
                refine lv_iadd hx hb dX3_readValues_105 ?_
                refine va_put (D := g.1) (ci := 7) (v := .int (c_at_4 + 1)) (ty := .int) (C := RX3) (T := TX3) (N := 4) hx hb hts inX3_readValues_X3 tyX3 tyX3_ok nmX3 hown hE.1 hP hD hS 0 rfl rfl 2 (by decide) (gW hts 2 (.fieldLink RX3 40 "SnowDispatcher$Script" "at" "I") rfl) (fun _ h9 => h9) rfl (by decide +kernel) rfl rfl (Nat.le_of_ble_eq_true rfl) dX3_readValues_106 (fun H locs hP hD hS => ?_)
                have hP : va_P g.1 vwCl (List.flatten [kSc g a_sc a_tb c_values_4 (c_at_4 + 1) c_verb, kSO g a_tb b_att b_mlt b_countt, kBa g b_att b_capt b_bytest]) H := hP
                have hD : va_D A (List.flatten [kSc g a_sc a_tb c_values_4 (c_at_4 + 1) c_verb, kSO g a_tb b_att b_mlt b_countt, kBa g b_att b_capt b_bytest]) := hD
                refine lv_iinc (v := (x3_4 + 1)) (lv' := [(3, .int (x3_4 + 1)), (4, .int r2), (0, .ref (a_sc 0)), (1, .ref (t.1 k_su)), (2, .int x2_4)]) hx hb dX3_readValues_109 hl (k := 4) rfl rfl (by decide) rfl (fun ls hl => ?_)
                refine lv_goto (tgt := 4) hx hb dX3_readValues_112 (by decide) ?_
                exact ih_4 x2_4 (x3_4 + 1) c_values_4 (c_at_4 + 1) _ _ _ hw hP hD hS (lv_sub hl [2, 3, 4, 0] rfl)
              · have hw := hw.2 c_85
                refine lv_aload_n hx hb dX3_readValues_88 rfl (lv_at hl 1 rfl) ?_
                refine va_get (D := g.1) (ci := 7) (v := .ref (a_sc 1)) (C := RX3) (T := TX3) (N := 4) hx hb hts inX3_readValues_X3 hown hE.1 hP 0 rfl rfl 1 (by decide) (gW hts 1 (.fieldLink RX3 18 "SnowDispatcher$Script" "values" "[I") rfl) (fun _ h9 => h9) rfl dX3_readValues_89 ?_
                refine lv_iload_n hx hb dX3_readValues_92 rfl (lv_at hl 3 rfl) ?_
                refine lv_aload_n hx hb dX3_readValues_93 rfl (lv_at hl 1 rfl) ?_
                refine gCi1 (gRunVX (As := []) (rest := [.int x2_4, .ref (a_sc 1)]) ⟨hx, hb, hml, hown, hts⟩ (ctX3_readNumber l g t a_sc a_tb _ c_values_4 c_at_4 c_verb b_mlt b_countt b_att b_capt b_bytest hw) (cwV 0 hts gX3_readValues_X3_readNumber rfl rfl rfl (by decide +kernel) ⟨Nat.le_of_ble_eq_true rfl, Nat.le_of_ble_eq_true rfl⟩) hE hX hS (gFree hD hS hA [0, 1, 2]) (gSub hP [0, 1, 2]) (gDSub hD [0, 1, 2] rfl) 0 7 rfl rfl rfl rfl rfl hl.1 rfl (lv_room (Nat.le_of_ble_eq_true rfl)) dX3_readValues_94 ⟨Nat.le_of_ble_eq_true rfl, Nat.le_of_ble_eq_true rfl⟩) hP hD hS hA [0, 1, 2] rfl (fun _ => rfl) rfl (fun r3 c_at_v3 H locs hw hP hD hS => ?_)
                have hP : va_P g.1 vwCl (List.flatten [kSc g a_sc a_tb c_values_4 c_at_v3 c_verb, kSO g a_tb b_att b_mlt b_countt, kBa g b_att b_capt b_bytest]) H := hP
                have hD : va_D A (List.flatten [kSc g a_sc a_tb c_values_4 c_at_v3 c_verb, kSO g a_tb b_att b_mlt b_countt, kBa g b_att b_capt b_bytest]) := hD
                have h4 := hw.1
                have hw := hw.2
                refine va_iast hx hb hE.1 hP hD hS 1 0 rfl rfl h4 dX3_readValues_97 (fun H locs hP hD hS => ?_)
                have hP : va_P g.1 vwCl (List.flatten [kSc g a_sc a_tb (upd c_values_4 x2_4.toNatClampNeg r3) c_at_v3 c_verb, kSO g a_tb b_att b_mlt b_countt, kBa g b_att b_capt b_bytest]) H := hP
                have hD : va_D A (List.flatten [kSc g a_sc a_tb (upd c_values_4 x2_4.toNatClampNeg r3) c_at_v3 c_verb, kSO g a_tb b_att b_mlt b_countt, kBa g b_att b_capt b_bytest]) := hD
                subst hQ
                exact W.vret hx hb hr (gRv2 (c1 := (upd c_values_4 x2_4.toNatClampNeg r3)) (c2 := c_at_v3) (wf := _) hA0 hsz hw hP hD hS) hS.2.2 dX3_readValues_98
            · have hw := hw.2 c_55
              refine lv_aload_n hx hb dX3_readValues_58 rfl (lv_at hl 1 rfl) ?_
              refine va_get (D := g.1) (ci := 7) (v := .ref (a_sc 1)) (C := RX3) (T := TX3) (N := 4) hx hb hts inX3_readValues_X3 hown hE.1 hP 0 rfl rfl 1 (by decide) (gW hts 1 (.fieldLink RX3 18 "SnowDispatcher$Script" "values" "[I") rfl) (fun _ h9 => h9) rfl dX3_readValues_59 ?_
              refine lv_iload_n hx hb dX3_readValues_62 rfl (lv_at hl 3 rfl) ?_
              refine lv_aload_n hx hb dX3_readValues_63 rfl (lv_at hl 1 rfl) ?_
              refine lv_aload_n hx hb dX3_readValues_64 rfl (lv_at hl 1 rfl) ?_
              refine va_get (D := g.1) (ci := 7) (v := .int c_at_4) (C := RX3) (T := TX3) (N := 4) hx hb hts inX3_readValues_X3 hown hE.1 hP 0 rfl rfl 2 (by decide) (gW hts 2 (.fieldLink RX3 40 "SnowDispatcher$Script" "at" "I") rfl) (fun _ h9 => h9) rfl dX3_readValues_65 ?_
              refine gCi0 (gRunVX (As := [.int c_at_4]) (rest := [.int x2_4, .ref (a_sc 1)]) ⟨hx, hb, hml, hown, hts⟩ (ctX3_signAt l g t a_sc a_tb _ c_values_4 c_at_4 c_verb b_mlt b_countt b_att b_capt b_bytest c_at_4 hw) (cwV 1 hts gX3_readValues_X3_signAt rfl rfl rfl (by decide +kernel) ⟨Nat.le_of_ble_eq_true rfl, Nat.le_of_ble_eq_true rfl⟩) hE hX hS (gFree hD hS hA [0, 1, 2]) (gSub hP [0, 1, 2]) (gDSub hD [0, 1, 2] rfl) 0 7 rfl rfl rfl rfl rfl hl.1 rfl (lv_room (Nat.le_of_ble_eq_true rfl)) dX3_readValues_68 ⟨Nat.le_of_ble_eq_true rfl, Nat.le_of_ble_eq_true rfl⟩) hP hD hS hA [0, 1, 2] rfl rfl rfl (fun r5 H locs hw hP hD hS => ?_)
              have hP : va_P g.1 vwCl (List.flatten [kSc g a_sc a_tb c_values_4 c_at_4 c_verb, kSO g a_tb b_att b_mlt b_countt, kBa g b_att b_capt b_bytest]) H := hP
              have hD : va_D A (List.flatten [kSc g a_sc a_tb c_values_4 c_at_4 c_verb, kSO g a_tb b_att b_mlt b_countt, kBa g b_att b_capt b_bytest]) := hD
              refine lv_bipush (v := 48) hx hb dX3_readValues_71 (by decide) ?_
              refine lv_isub hx hb dX3_readValues_73 ?_
              have h6 := hw.1
              have hw := hw.2
              refine va_iast hx hb hE.1 hP hD hS 1 0 rfl rfl h6 dX3_readValues_74 (fun H locs hP hD hS => ?_)
              have hP : va_P g.1 vwCl (List.flatten [kSc g a_sc a_tb (upd c_values_4 x2_4.toNatClampNeg (r5 - 48)) c_at_4 c_verb, kSO g a_tb b_att b_mlt b_countt, kBa g b_att b_capt b_bytest]) H := hP
              have hD : va_D A (List.flatten [kSc g a_sc a_tb (upd c_values_4 x2_4.toNatClampNeg (r5 - 48)) c_at_4 c_verb, kSO g a_tb b_att b_mlt b_countt, kBa g b_att b_capt b_bytest]) := hD
              refine lv_iinc (v := (x2_4 + 1)) (lv' := [(2, .int (x2_4 + 1)), (4, .int r2), (0, .ref (a_sc 0)), (1, .ref (t.1 k_su)), (3, .int x3_4)]) hx hb dX3_readValues_75 hl (k := 3) rfl rfl (by decide) rfl (fun ls hl => ?_)
              refine lv_goto (tgt := 99) hx hb dX3_readValues_78 (by decide) ?_
              refine lv_aload_n hx hb dX3_readValues_99 rfl (lv_at hl 2 rfl) ?_
              refine lv_dup hx hb dX3_readValues_100 rfl ?_
              refine va_get (D := g.1) (ci := 7) (v := .int c_at_4) (C := RX3) (T := TX3) (N := 4) hx hb hts inX3_readValues_X3 hown hE.1 hP 0 rfl rfl 2 (by decide) (gW hts 2 (.fieldLink RX3 40 "SnowDispatcher$Script" "at" "I") rfl) (fun _ h9 => h9) rfl dX3_readValues_101 ?_
              refine lv_iconst (v := 1) hx hb dX3_readValues_104 (by decide) ?_
              refine lv_iadd hx hb dX3_readValues_105 ?_
              refine va_put (D := g.1) (ci := 7) (v := .int (c_at_4 + 1)) (ty := .int) (C := RX3) (T := TX3) (N := 4) hx hb hts inX3_readValues_X3 tyX3 tyX3_ok nmX3 hown hE.1 hP hD hS 0 rfl rfl 2 (by decide) (gW hts 2 (.fieldLink RX3 40 "SnowDispatcher$Script" "at" "I") rfl) (fun _ h9 => h9) rfl (by decide +kernel) rfl rfl (Nat.le_of_ble_eq_true rfl) dX3_readValues_106 (fun H locs hP hD hS => ?_)
              have hP : va_P g.1 vwCl (List.flatten [kSc g a_sc a_tb (upd c_values_4 x2_4.toNatClampNeg (r5 - 48)) (c_at_4 + 1) c_verb, kSO g a_tb b_att b_mlt b_countt, kBa g b_att b_capt b_bytest]) H := hP
              have hD : va_D A (List.flatten [kSc g a_sc a_tb (upd c_values_4 x2_4.toNatClampNeg (r5 - 48)) (c_at_4 + 1) c_verb, kSO g a_tb b_att b_mlt b_countt, kBa g b_att b_capt b_bytest]) := hD
              refine lv_iinc (v := (x3_4 + 1)) (lv' := [(3, .int (x3_4 + 1)), (2, .int (x2_4 + 1)), (4, .int r2), (0, .ref (a_sc 0)), (1, .ref (t.1 k_su))]) hx hb dX3_readValues_109 hl (k := 4) rfl rfl (by decide) rfl (fun ls hl => ?_)
              refine lv_goto (tgt := 4) hx hb dX3_readValues_112 (by decide) ?_
              exact ih_4 (x2_4 + 1) (x3_4 + 1) (upd c_values_4 x2_4.toNatClampNeg (r5 - 48)) (c_at_4 + 1) _ _ _ hw hP hD hS (lv_sub hl [3, 4, 1, 0] rfl)
          · have hw := hw.2 c_28
            refine lv_aload_n hx hb dX3_readValues_31 rfl (lv_at hl 1 rfl) ?_
            refine va_get (D := g.1) (ci := 7) (v := .ref (a_sc 1)) (C := RX3) (T := TX3) (N := 4) hx hb hts inX3_readValues_X3 hown hE.1 hP 0 rfl rfl 1 (by decide) (gW hts 1 (.fieldLink RX3 18 "SnowDispatcher$Script" "values" "[I") rfl) (fun _ h9 => h9) rfl dX3_readValues_32 ?_
            refine lv_iload_n hx hb dX3_readValues_35 rfl (lv_at hl 3 rfl) ?_
            refine lv_aload_n hx hb dX3_readValues_36 rfl (lv_at hl 1 rfl) ?_
            refine lv_aload_n hx hb dX3_readValues_37 rfl (lv_at hl 1 rfl) ?_
            refine va_get (D := g.1) (ci := 7) (v := .int c_at_4) (C := RX3) (T := TX3) (N := 4) hx hb hts inX3_readValues_X3 hown hE.1 hP 0 rfl rfl 2 (by decide) (gW hts 2 (.fieldLink RX3 40 "SnowDispatcher$Script" "at" "I") rfl) (fun _ h9 => h9) rfl dX3_readValues_38 ?_
            refine gCi0 (gRunVX (As := [.int c_at_4]) (rest := [.int x2_4, .ref (a_sc 1)]) ⟨hx, hb, hml, hown, hts⟩ (ctX3_signAt l g t a_sc a_tb _ c_values_4 c_at_4 c_verb b_mlt b_countt b_att b_capt b_bytest c_at_4 hw) (cwV 1 hts gX3_readValues_X3_signAt rfl rfl rfl (by decide +kernel) ⟨Nat.le_of_ble_eq_true rfl, Nat.le_of_ble_eq_true rfl⟩) hE hX hS (gFree hD hS hA [0, 1, 2]) (gSub hP [0, 1, 2]) (gDSub hD [0, 1, 2] rfl) 0 7 rfl rfl rfl rfl rfl hl.1 rfl (lv_room (Nat.le_of_ble_eq_true rfl)) dX3_readValues_41 ⟨Nat.le_of_ble_eq_true rfl, Nat.le_of_ble_eq_true rfl⟩) hP hD hS hA [0, 1, 2] rfl rfl rfl (fun r7 H locs hw hP hD hS => ?_)
            have hP : va_P g.1 vwCl (List.flatten [kSc g a_sc a_tb c_values_4 c_at_4 c_verb, kSO g a_tb b_att b_mlt b_countt, kBa g b_att b_capt b_bytest]) H := hP
            have hD : va_D A (List.flatten [kSc g a_sc a_tb c_values_4 c_at_4 c_verb, kSO g a_tb b_att b_mlt b_countt, kBa g b_att b_capt b_bytest]) := hD
            have h8 := hw.1
            have hw := hw.2
            refine va_iast hx hb hE.1 hP hD hS 1 0 rfl rfl h8 dX3_readValues_44 (fun H locs hP hD hS => ?_)
            have hP : va_P g.1 vwCl (List.flatten [kSc g a_sc a_tb (upd c_values_4 x2_4.toNatClampNeg r7) c_at_4 c_verb, kSO g a_tb b_att b_mlt b_countt, kBa g b_att b_capt b_bytest]) H := hP
            have hD : va_D A (List.flatten [kSc g a_sc a_tb (upd c_values_4 x2_4.toNatClampNeg r7) c_at_4 c_verb, kSO g a_tb b_att b_mlt b_countt, kBa g b_att b_capt b_bytest]) := hD
            refine lv_iinc (v := (x2_4 + 1)) (lv' := [(2, .int (x2_4 + 1)), (4, .int r2), (0, .ref (a_sc 0)), (1, .ref (t.1 k_su)), (3, .int x3_4)]) hx hb dX3_readValues_45 hl (k := 3) rfl rfl (by decide) rfl (fun ls hl => ?_)
            refine lv_goto (tgt := 99) hx hb dX3_readValues_48 (by decide) ?_
            refine lv_aload_n hx hb dX3_readValues_99 rfl (lv_at hl 2 rfl) ?_
            refine lv_dup hx hb dX3_readValues_100 rfl ?_
            refine va_get (D := g.1) (ci := 7) (v := .int c_at_4) (C := RX3) (T := TX3) (N := 4) hx hb hts inX3_readValues_X3 hown hE.1 hP 0 rfl rfl 2 (by decide) (gW hts 2 (.fieldLink RX3 40 "SnowDispatcher$Script" "at" "I") rfl) (fun _ h9 => h9) rfl dX3_readValues_101 ?_
            refine lv_iconst (v := 1) hx hb dX3_readValues_104 (by decide) ?_
            refine lv_iadd hx hb dX3_readValues_105 ?_
            refine va_put (D := g.1) (ci := 7) (v := .int (c_at_4 + 1)) (ty := .int) (C := RX3) (T := TX3) (N := 4) hx hb hts inX3_readValues_X3 tyX3 tyX3_ok nmX3 hown hE.1 hP hD hS 0 rfl rfl 2 (by decide) (gW hts 2 (.fieldLink RX3 40 "SnowDispatcher$Script" "at" "I") rfl) (fun _ h9 => h9) rfl (by decide +kernel) rfl rfl (Nat.le_of_ble_eq_true rfl) dX3_readValues_106 (fun H locs hP hD hS => ?_)
            have hP : va_P g.1 vwCl (List.flatten [kSc g a_sc a_tb (upd c_values_4 x2_4.toNatClampNeg r7) (c_at_4 + 1) c_verb, kSO g a_tb b_att b_mlt b_countt, kBa g b_att b_capt b_bytest]) H := hP
            have hD : va_D A (List.flatten [kSc g a_sc a_tb (upd c_values_4 x2_4.toNatClampNeg r7) (c_at_4 + 1) c_verb, kSO g a_tb b_att b_mlt b_countt, kBa g b_att b_capt b_bytest]) := hD
            refine lv_iinc (v := (x3_4 + 1)) (lv' := [(3, .int (x3_4 + 1)), (2, .int (x2_4 + 1)), (4, .int r2), (0, .ref (a_sc 0)), (1, .ref (t.1 k_su))]) hx hb dX3_readValues_109 hl (k := 4) rfl rfl (by decide) rfl (fun ls hl => ?_)
            refine lv_goto (tgt := 4) hx hb dX3_readValues_112 (by decide) ?_
            exact ih_4 (x2_4 + 1) (x3_4 + 1) (upd c_values_4 x2_4.toNatClampNeg r7) (c_at_4 + 1) _ _ _ hw hP hD hS (lv_sub hl [3, 4, 1, 0] rfl)
  refine lv_iconst (v := 0) hx hb dX3_readValues_0 (by decide) ?_
  refine lv_istore_n (lv' := [(2, .int 0), (0, .ref (a_sc 0)), (1, .ref (t.1 k_su))]) hx hb dX3_readValues_1 rfl hl (by decide) rfl (fun ls hl => ?_)
  refine lv_iconst (v := 0) hx hb dX3_readValues_2 (by decide) ?_
  refine lv_istore_n (lv' := [(3, .int 0), (2, .int 0), (0, .ref (a_sc 0)), (1, .ref (t.1 k_su))]) hx hb dX3_readValues_3 rfl hl (by decide) rfl (fun ls hl => ?_)
  obtain ⟨n, hw⟩ := hw
  exact L4 n 0 0 c_values c_at _ _ _ hw hP hD hS (lv_sub hl [2, 3, 1, 0] rfl)
abbrev rmX3_readCommand : Room := { frames := 8, cells := 0, slots := 0, locals := 262 }
set_option maxRecDepth 20000 in
theorem inX3_readCommand_J4 : ∀ w ∈ wsJ40, w ∈ wsX3_readCommand := by decide +kernel
set_option maxRecDepth 20000 in
theorem inX3_readCommand_X3 : ∀ w ∈ wsX30, w ∈ wsX3_readCommand := by decide +kernel
set_option maxHeartbeats 4000000 in
set_option maxRecDepth 100000 in
theorem ctX3_readCommand (l : Launch) (g : GG) (t : GT) (a_sc : Nat → Nat) (a_tb : Nat → Nat) (sz : Nat) (c_values : Nat → Int32) (c_at : Int32) (c_verb : Int32) (b_mlt : Int32) (b_countt : Int32) (b_att : Nat → Nat) (b_capt : Nat) (b_bytest : Nat → Int32) {post : Int32 → (Nat → Int32) → Int32 → Int32 → Prop} (hw : wpX3_readCommand c_values c_at c_verb b_countt b_capt b_bytest post) :
    Met l yX3_readCommand wsX3_readCommand rmX3_readCommand (gPX g t sz (List.flatten [kSc g a_sc a_tb c_values c_at c_verb, kSO g a_tb b_att b_mlt b_countt, kBa g b_att b_capt b_bytest]) [.ref (a_sc 0)]) (gQi3 post (fun u1 u2 u3 => gB g (List.flatten [kSc g a_sc a_tb c_values c_at c_verb, kSO g a_tb b_att b_mlt b_countt, kBa g b_att b_capt b_bytest]) sz (List.flatten [kSc g a_sc a_tb u1 u2 u3, kSO g a_tb b_att b_mlt b_countt, kBa g b_att b_capt b_bytest])) (va_A (List.flatten [kSc g a_sc a_tb c_values c_at c_verb, kSO g a_tb b_att b_mlt b_countt, kBa g b_att b_capt b_bytest]) sz)) 0 0 (va_A (List.flatten [kSc g a_sc a_tb c_values c_at c_verb, kSO g a_tb b_att b_mlt b_countt, kBa g b_att b_capt b_bytest]) sz) := by
  refine gOfX (cc := cX3_readCommand) (maxL := 5) (ret := (some .boolean)) (by decide) rfl (Nat.le_of_ble_eq_true rfl) ?_
  intro p e s m below meth c ls Q A hQ hx hb hr hml hts hown hlocks hE hA0 hsz hP hD hA hS hl hX
  have hl : lv_has ls 5 [(0, .ref (a_sc 0))] := hl
  have L4 : ∀ (n : Nat) (c_values_4 : Nat → Int32) (c_at_4 : Int32) (c_verb_4 : Int32) (x1_4 : Int32) (x2_4 : Int32) (H : Heap) (locs : List Loc) (ls : Array Slot), wpX3_readCommand_L4 b_countt b_capt b_bytest c_values_4 c_at_4 c_verb_4 post n x1_4 x2_4 → va_P g.1 vwCl (List.flatten [kSc g a_sc a_tb c_values_4 c_at_4 c_verb_4, kSO g a_tb b_att b_mlt b_countt, kBa g b_att b_capt b_bytest]) H → va_D A (List.flatten [kSc g a_sc a_tb c_values_4 c_at_4 c_verb_4, kSO g a_tb b_att b_mlt b_countt, kBa g b_att b_capt b_bytest]) → va_S A s.heap H locs → lv_has ls 5 [(0, .ref (a_sc 0)), (1, .int x1_4), (2, .int x2_4)] → W p l e rmX3_readCommand s m (([.ref (a_sc 0)] : List Value).toArray) below meth c H locs 0 0 Q (F0 m 4 ls []) := by
    intro n_4
    induction n_4 with
    | zero => intro c_values_4 c_at_4 c_verb_4 x1_4 x2_4 H locs ls hw; exact False.elim hw
    | succ n_4 ih_4 =>
      intro c_values_4 c_at_4 c_verb_4 x1_4 x2_4 H locs ls hw hP hD hS hl
      refine lv_iload_n hx hb dX3_readCommand_4 rfl (lv_at hl 2 rfl) ?_
      refine lv_bipush (v := 8) hx hb dX3_readCommand_5 (by decide) ?_
      refine lv_icmp_gt (tgt := 56) hx hb dX3_readCommand_7 (by decide) (fun c_7 => ?_) (fun c_7 => ?_)
      · have hw := hw.1 c_7
        refine lv_aload_n hx hb dX3_readCommand_56 rfl (lv_at hl 0 rfl) ?_
        refine lv_dup hx hb dX3_readCommand_57 rfl ?_
        refine va_get (D := g.1) (ci := 7) (v := .int c_at_4) (C := RX3) (T := TX3) (N := 4) hx hb hts inX3_readCommand_X3 hown hE.1 hP 0 rfl rfl 2 (by decide) (gW hts 6 (.fieldLink RX3 40 "SnowDispatcher$Script" "at" "I") rfl) (fun _ h9 => h9) rfl dX3_readCommand_58 ?_
        refine lv_iload_n hx hb dX3_readCommand_61 rfl (lv_at hl 1 rfl) ?_
        refine lv_iadd hx hb dX3_readCommand_62 ?_
        refine va_put (D := g.1) (ci := 7) (v := .int (c_at_4 + x1_4)) (ty := .int) (C := RX3) (T := TX3) (N := 4) hx hb hts inX3_readCommand_X3 tyX3 tyX3_ok nmX3 hown hE.1 hP hD hS 0 rfl rfl 2 (by decide) (gW hts 6 (.fieldLink RX3 40 "SnowDispatcher$Script" "at" "I") rfl) (fun _ h9 => h9) rfl (by decide +kernel) rfl rfl (Nat.le_of_ble_eq_true rfl) dX3_readCommand_63 (fun H locs hP hD hS => ?_)
        have hP : va_P g.1 vwCl (List.flatten [kSc g a_sc a_tb c_values_4 (c_at_4 + x1_4) c_verb_4, kSO g a_tb b_att b_mlt b_countt, kBa g b_att b_capt b_bytest]) H := hP
        have hD : va_D A (List.flatten [kSc g a_sc a_tb c_values_4 (c_at_4 + x1_4) c_verb_4, kSO g a_tb b_att b_mlt b_countt, kBa g b_att b_capt b_bytest]) := hD
        refine lv_iconst (v := 0) hx hb dX3_readCommand_66 (by decide) ?_
        subst hQ
        exact W.zret (ty := .boolean) hx hb hr (by decide) (gRi3 (c1 := c_values_4) (c2 := (c_at_4 + x1_4)) (c3 := c_verb_4) (wf := _) hA0 hsz hw hP hD hS) hS.2.2 dX3_readCommand_67
      · have hw := hw.2 c_7
        refine lv_iload_n hx hb dX3_readCommand_10 rfl (lv_at hl 2 rfl) ?_
        refine gCs0 (gRunSX (As := [.int x2_4]) (rest := []) ⟨hx, hb, hml, hown, hts⟩ (ctX3_formOf l g t _ x2_4 hw) (va_cwS 1 hts gX3_readCommand_X3_formOf rfl rfl rfl (by decide +kernel) ⟨Nat.le_of_ble_eq_true rfl, Nat.le_of_ble_eq_true rfl⟩) hE hX hS (gFree hD hS hA []) (gSub hP []) (gDSub hD [] rfl) rfl rfl hl.1 rfl (lv_room (Nat.le_of_ble_eq_true rfl)) dX3_readCommand_11 ⟨Nat.le_of_ble_eq_true rfl, Nat.le_of_ble_eq_true rfl⟩) hP hD hS hA [] rfl rfl rfl (fun k1 hk1 H locs hw hP hD hS => ?_)
        have hP : va_P g.1 vwCl (List.flatten [kSc g a_sc a_tb c_values_4 c_at_4 c_verb_4, kSO g a_tb b_att b_mlt b_countt, kBa g b_att b_capt b_bytest]) H := hP
        have hD : va_D A (List.flatten [kSc g a_sc a_tb c_values_4 c_at_4 c_verb_4, kSO g a_tb b_att b_mlt b_countt, kBa g b_att b_capt b_bytest]) := hD
        refine lv_astore_n (lv' := [(3, .ref (t.1 k1)), (0, .ref (a_sc 0)), (1, .int x1_4), (2, .int x2_4)]) hx hb dX3_readCommand_14 rfl hl (by decide) rfl (fun ls hl => ?_)
        refine lv_aload_n hx hb dX3_readCommand_15 rfl (lv_at hl 1 rfl) ?_
        refine lv_aload_n hx hb dX3_readCommand_16 rfl (lv_at hl 0 rfl) ?_
        refine gCi0 (gRunVX (As := [.ref (t.1 k1)]) (rest := []) ⟨hx, hb, hml, hown, hts⟩ (ctX3_fittingSigns l g t a_sc a_tb _ c_values_4 c_at_4 c_verb_4 b_mlt b_countt b_att b_capt b_bytest k1 (gLen.getD k1 0) (fun j => (gByt.getD k1 []).getD j 0) ⟨hk1, rfl, rfl⟩ hw) (cwV 1 hts gX3_readCommand_X3_fittingSigns rfl rfl rfl (by decide +kernel) ⟨Nat.le_of_ble_eq_true rfl, Nat.le_of_ble_eq_true rfl⟩) hE hX hS (gFree hD hS hA [0, 1, 2]) (gSub hP [0, 1, 2]) (gDSub hD [0, 1, 2] rfl) 0 7 rfl rfl rfl rfl rfl hl.1 rfl (lv_room (Nat.le_of_ble_eq_true rfl)) dX3_readCommand_17 ⟨Nat.le_of_ble_eq_true rfl, Nat.le_of_ble_eq_true rfl⟩) hP hD hS hA [0, 1, 2] rfl rfl rfl (fun r2 H locs hw hP hD hS => ?_)
        have hP : va_P g.1 vwCl (List.flatten [kSc g a_sc a_tb c_values_4 c_at_4 c_verb_4, kSO g a_tb b_att b_mlt b_countt, kBa g b_att b_capt b_bytest]) H := hP
        have hD : va_D A (List.flatten [kSc g a_sc a_tb c_values_4 c_at_4 c_verb_4, kSO g a_tb b_att b_mlt b_countt, kBa g b_att b_capt b_bytest]) := hD
        refine lv_istore (lv' := [(4, .int r2), (3, .ref (t.1 k1)), (0, .ref (a_sc 0)), (1, .int x1_4), (2, .int x2_4)]) hx hb dX3_readCommand_20 hl (by decide) rfl (fun ls hl => ?_)
        refine lv_iload hx hb dX3_readCommand_22 (lv_at hl 0 rfl) ?_
        refine lv_aload_n hx hb dX3_readCommand_24 rfl (lv_at hl 1 rfl) ?_
        refine gCi0 (gRunVr (As := []) (rest := [.int r2]) ⟨hx, hb, hml, hown, hts⟩ (ctJ0_length_8abf5 l g t _ k1 (gLen.getD k1 0) (fun j => (gByt.getD k1 []).getD j 0) ⟨hk1, rfl, rfl⟩ hw) (cwV 0 hts gX3_readCommand_J0_length_8abf5 rfl rfl rfl (by decide +kernel) ⟨Nat.le_of_ble_eq_true rfl, Nat.le_of_ble_eq_true rfl⟩) hE hX hS (gFree hD hS hA []) (gSub hP []) (gDSub hD [] rfl) ((hX.1.1 k1 hk1).recv hS) rfl rfl hl.1 rfl (lv_room (Nat.le_of_ble_eq_true rfl)) dX3_readCommand_25 ⟨Nat.le_of_ble_eq_true rfl, Nat.le_of_ble_eq_true rfl⟩) hP hD hS hA [] rfl rfl rfl (fun r3 H locs hw hP hD hS => ?_)
        have hP : va_P g.1 vwCl (List.flatten [kSc g a_sc a_tb c_values_4 c_at_4 c_verb_4, kSO g a_tb b_att b_mlt b_countt, kBa g b_att b_capt b_bytest]) H := hP
        have hD : va_D A (List.flatten [kSc g a_sc a_tb c_values_4 c_at_4 c_verb_4, kSO g a_tb b_att b_mlt b_countt, kBa g b_att b_capt b_bytest]) := hD
        refine lv_icmp_ne (tgt := 43) hx hb dX3_readCommand_28 (by decide) (fun c_28 => ?_) (fun c_28 => ?_)
        · have hw := hw.1 c_28
          refine lv_iload_n hx hb dX3_readCommand_43 rfl (lv_at hl 3 rfl) ?_
          refine lv_iload hx hb dX3_readCommand_44 (lv_at hl 0 rfl) ?_
          refine va_mmax hx hb (hml.trans hl.1.symm) hown (gW hts 2 (.methodLink RX3 74 Lib.Math.max.name) rfl) (gW hts 3 (.static Lib.Math.max.name) rfl) (gW hts 4 (.initialized "java/lang/Math") rfl) (gW hts 5 (.code Lib.Math.max.name Lib.Math.max.code 2 (some .int)) rfl) (Nat.le_of_ble_eq_true rfl) (Nat.le_of_ble_eq_true rfl) (Nat.le_of_ble_eq_true rfl) (Nat.le_of_ble_eq_true rfl) dX3_readCommand_46 ?_
          refine lv_istore_n (lv' := [(1, .int (if x1_4 < r2 then r2 else x1_4)), (4, .int r2), (3, .ref (t.1 k1)), (0, .ref (a_sc 0)), (2, .int x2_4)]) hx hb dX3_readCommand_49 rfl hl (by decide) rfl (fun ls hl => ?_)
          refine lv_iinc (v := (x2_4 + 1)) (lv' := [(2, .int (x2_4 + 1)), (1, .int (if x1_4 < r2 then r2 else x1_4)), (4, .int r2), (3, .ref (t.1 k1)), (0, .ref (a_sc 0))]) hx hb dX3_readCommand_50 hl (k := 4) rfl rfl (by decide) rfl (fun ls hl => ?_)
          refine lv_goto (tgt := 4) hx hb dX3_readCommand_53 (by decide) ?_
          exact ih_4 c_values_4 c_at_4 c_verb_4 (if x1_4 < r2 then r2 else x1_4) (x2_4 + 1) _ _ _ hw hP hD hS (lv_sub hl [4, 1, 0] rfl)
        · have hw := hw.2 c_28
          refine lv_aload_n hx hb dX3_readCommand_31 rfl (lv_at hl 2 rfl) ?_
          refine lv_iload_n hx hb dX3_readCommand_32 rfl (lv_at hl 4 rfl) ?_
          refine va_put (D := g.1) (ci := 7) (v := .int x2_4) (ty := .int) (C := RX3) (T := TX3) (N := 4) hx hb hts inX3_readCommand_X3 tyX3 tyX3_ok nmX3 hown hE.1 hP hD hS 0 rfl rfl 3 (by decide) (gW hts 1 (.fieldLink RX3 67 "SnowDispatcher$Script" "verb" "I") rfl) (fun _ h9 => h9) rfl (by decide +kernel) rfl rfl (Nat.le_of_ble_eq_true rfl) dX3_readCommand_33 (fun H locs hP hD hS => ?_)
          have hP : va_P g.1 vwCl (List.flatten [kSc g a_sc a_tb c_values_4 c_at_4 x2_4, kSO g a_tb b_att b_mlt b_countt, kBa g b_att b_capt b_bytest]) H := hP
          have hD : va_D A (List.flatten [kSc g a_sc a_tb c_values_4 c_at_4 x2_4, kSO g a_tb b_att b_mlt b_countt, kBa g b_att b_capt b_bytest]) := hD
          refine lv_aload_n hx hb dX3_readCommand_36 rfl (lv_at hl 2 rfl) ?_
          refine lv_aload_n hx hb dX3_readCommand_37 rfl (lv_at hl 1 rfl) ?_
          refine gCv2 (gRunVX (As := [.ref (t.1 k1)]) (rest := []) ⟨hx, hb, hml, hown, hts⟩ (ctX3_readValues l g t a_sc a_tb _ c_values_4 c_at_4 x2_4 b_mlt b_countt b_att b_capt b_bytest k1 (gLen.getD k1 0) (fun j => (gByt.getD k1 []).getD j 0) ⟨hk1, rfl, rfl⟩ hw) (cwV 1 hts gX3_readCommand_X3_readValues rfl rfl rfl (by decide +kernel) ⟨Nat.le_of_ble_eq_true rfl, Nat.le_of_ble_eq_true rfl⟩) hE hX hS (gFree hD hS hA [0, 1, 2]) (gSub hP [0, 1, 2]) (gDSub hD [0, 1, 2] rfl) 0 7 rfl rfl rfl rfl rfl hl.1 rfl (lv_room (Nat.le_of_ble_eq_true rfl)) dX3_readCommand_38 ⟨Nat.le_of_ble_eq_true rfl, Nat.le_of_ble_eq_true rfl⟩) hP hD hS hA [0, 1, 2] rfl (fun _ _ => rfl) rfl (fun c_values_v4 c_at_v4 H locs hw hP hD hS => ?_)
          have hP : va_P g.1 vwCl (List.flatten [kSc g a_sc a_tb c_values_v4 c_at_v4 x2_4, kSO g a_tb b_att b_mlt b_countt, kBa g b_att b_capt b_bytest]) H := hP
          have hD : va_D A (List.flatten [kSc g a_sc a_tb c_values_v4 c_at_v4 x2_4, kSO g a_tb b_att b_mlt b_countt, kBa g b_att b_capt b_bytest]) := hD
          refine lv_iconst (v := 1) hx hb dX3_readCommand_41 (by decide) ?_
          subst hQ
          exact W.zret (ty := .boolean) hx hb hr (by decide) (gRi3 (c1 := c_values_v4) (c2 := c_at_v4) (c3 := x2_4) (wf := _) hA0 hsz hw hP hD hS) hS.2.2 dX3_readCommand_42
  refine lv_iconst (v := 0) hx hb dX3_readCommand_0 (by decide) ?_
  refine lv_istore_n (lv' := [(1, .int 0), (0, .ref (a_sc 0))]) hx hb dX3_readCommand_1 rfl hl (by decide) rfl (fun ls hl => ?_)
  refine lv_iconst (v := 0) hx hb dX3_readCommand_2 (by decide) ?_
  refine lv_istore_n (lv' := [(2, .int 0), (1, .int 0), (0, .ref (a_sc 0))]) hx hb dX3_readCommand_3 rfl hl (by decide) rfl (fun ls hl => ?_)
  obtain ⟨n, hw⟩ := hw
  exact L4 n c_values c_at c_verb 0 0 _ _ _ hw hP hD hS (lv_sub hl [2, 1, 0] rfl)
abbrev rmX3_countCommands : Room := { frames := 9, cells := 0, slots := 0, locals := 287 }
set_option maxRecDepth 20000 in
theorem inX3_countCommands_J4 : ∀ w ∈ wsJ40, w ∈ wsX3_countCommands := by decide +kernel
set_option maxRecDepth 20000 in
theorem inX3_countCommands_X3 : ∀ w ∈ wsX30, w ∈ wsX3_countCommands := by decide +kernel
set_option maxHeartbeats 4000000 in
set_option maxRecDepth 100000 in
theorem ctX3_countCommands (l : Launch) (g : GG) (t : GT) (a_sc : Nat → Nat) (a_tb : Nat → Nat) (sz : Nat) (c_values : Nat → Int32) (c_at : Int32) (c_verb : Int32) (b_mlt : Int32) (b_countt : Int32) (b_att : Nat → Nat) (b_capt : Nat) (b_bytest : Nat → Int32) {post : Int32 → (Nat → Int32) → Int32 → Int32 → Prop} (hw : wpX3_countCommands c_values c_at c_verb b_countt b_capt b_bytest post) :
    Met l yX3_countCommands wsX3_countCommands rmX3_countCommands (gPX g t sz (List.flatten [kSc g a_sc a_tb c_values c_at c_verb, kSO g a_tb b_att b_mlt b_countt, kBa g b_att b_capt b_bytest]) [.ref (a_sc 0)]) (gQi3 post (fun u1 u2 u3 => gB g (List.flatten [kSc g a_sc a_tb c_values c_at c_verb, kSO g a_tb b_att b_mlt b_countt, kBa g b_att b_capt b_bytest]) sz (List.flatten [kSc g a_sc a_tb u1 u2 u3, kSO g a_tb b_att b_mlt b_countt, kBa g b_att b_capt b_bytest])) (va_A (List.flatten [kSc g a_sc a_tb c_values c_at c_verb, kSO g a_tb b_att b_mlt b_countt, kBa g b_att b_capt b_bytest]) sz)) 0 0 (va_A (List.flatten [kSc g a_sc a_tb c_values c_at c_verb, kSO g a_tb b_att b_mlt b_countt, kBa g b_att b_capt b_bytest]) sz) := by
  refine gOfX (cc := cX3_countCommands) (maxL := 2) (ret := (some .int)) (by decide) rfl (Nat.le_of_ble_eq_true rfl) ?_
  intro p e s m below meth c ls Q A hQ hx hb hr hml hts hown hlocks hE hA0 hsz hP hD hA hS hl hX
  have hl : lv_has ls 2 [(0, .ref (a_sc 0))] := hl
  have L7 : ∀ (n : Nat) (x1_7 : Int32) (c_values_7 : Nat → Int32) (c_at_7 : Int32) (c_verb_7 : Int32) (H : Heap) (locs : List Loc) (ls : Array Slot), wpX3_countCommands_L7 b_countt b_capt b_bytest post n x1_7 c_values_7 c_at_7 c_verb_7 → va_P g.1 vwCl (List.flatten [kSc g a_sc a_tb c_values_7 c_at_7 c_verb_7, kSO g a_tb b_att b_mlt b_countt, kBa g b_att b_capt b_bytest]) H → va_D A (List.flatten [kSc g a_sc a_tb c_values_7 c_at_7 c_verb_7, kSO g a_tb b_att b_mlt b_countt, kBa g b_att b_capt b_bytest]) → va_S A s.heap H locs → lv_has ls 2 [(0, .ref (a_sc 0)), (1, .int x1_7)] → W p l e rmX3_countCommands s m (([.ref (a_sc 0)] : List Value).toArray) below meth c H locs 0 0 Q (F0 m 7 ls []) := by
    intro n_7
    induction n_7 with
    | zero => intro x1_7 c_values_7 c_at_7 c_verb_7 H locs ls hw; exact False.elim hw
    | succ n_7 ih_7 =>
      intro x1_7 c_values_7 c_at_7 c_verb_7 H locs ls hw hP hD hS hl
      refine lv_iload_n hx hb dX3_countCommands_7 rfl (lv_at hl 1 rfl) ?_
      refine lv_bipush (v := 60) hx hb dX3_countCommands_8 (by decide) ?_
      refine lv_icmp_gt (tgt := 69) hx hb dX3_countCommands_10 (by decide) (fun c_10 => ?_) (fun c_10 => ?_)
      · have hw := hw.1 c_10
        refine lv_iconst (v := (-1)) hx hb dX3_countCommands_69 (by decide) ?_
        subst hQ
        exact W.iret hx hb hr (gRi3 (c1 := c_values_7) (c2 := c_at_7) (c3 := c_verb_7) (wf := _) hA0 hsz hw hP hD hS) hS.2.2 dX3_countCommands_70
      · have hw := hw.2 c_10
        refine lv_aload_n hx hb dX3_countCommands_13 rfl (lv_at hl 0 rfl) ?_
        refine gCi3 (gRunVX (As := []) (rest := []) ⟨hx, hb, hml, hown, hts⟩ (ctX3_readCommand l g t a_sc a_tb _ c_values_7 c_at_7 c_verb_7 b_mlt b_countt b_att b_capt b_bytest hw) (cwV 0 hts gX3_countCommands_X3_readCommand rfl rfl rfl (by decide +kernel) ⟨Nat.le_of_ble_eq_true rfl, Nat.le_of_ble_eq_true rfl⟩) hE hX hS (gFree hD hS hA [0, 1, 2]) (gSub hP [0, 1, 2]) (gDSub hD [0, 1, 2] rfl) 0 7 rfl rfl rfl rfl rfl hl.1 rfl (lv_room (Nat.le_of_ble_eq_true rfl)) dX3_countCommands_14 ⟨Nat.le_of_ble_eq_true rfl, Nat.le_of_ble_eq_true rfl⟩) hP hD hS hA [0, 1, 2] rfl (fun _ _ _ => rfl) rfl (fun r1 c_values_v1 c_at_v1 c_verb_v1 H locs hw hP hD hS => ?_)
        have hP : va_P g.1 vwCl (List.flatten [kSc g a_sc a_tb c_values_v1 c_at_v1 c_verb_v1, kSO g a_tb b_att b_mlt b_countt, kBa g b_att b_capt b_bytest]) H := hP
        have hD : va_D A (List.flatten [kSc g a_sc a_tb c_values_v1 c_at_v1 c_verb_v1, kSO g a_tb b_att b_mlt b_countt, kBa g b_att b_capt b_bytest]) := hD
        refine lv_if_ne (tgt := 22) hx hb dX3_countCommands_17 (by decide) (fun c_17 => ?_) (fun c_17 => ?_)
        · have hw := hw.1 c_17
          refine lv_aload_n hx hb dX3_countCommands_22 rfl (lv_at hl 0 rfl) ?_
          refine va_get (D := g.1) (ci := 7) (v := .int c_at_v1) (C := RX3) (T := TX3) (N := 4) hx hb hts inX3_countCommands_X3 hown hE.1 hP 0 rfl rfl 2 (by decide) (gW hts 1 (.fieldLink RX3 40 "SnowDispatcher$Script" "at" "I") rfl) (fun _ h9 => h9) rfl dX3_countCommands_23 ?_
          refine lv_aload_n hx hb dX3_countCommands_26 rfl (lv_at hl 0 rfl) ?_
          refine va_get (D := g.1) (ci := 7) (v := .ref (a_tb 0)) (C := RX3) (T := TX3) (N := 4) hx hb hts inX3_countCommands_X3 hown hE.1 hP 0 rfl rfl 0 (by decide) (gW hts 2 (.fieldLink RX3 12 "SnowDispatcher$Script" "text" "Ljava/lang/StringBuilder;") rfl) (fun _ h9 => h9) rfl dX3_countCommands_27 ?_
          refine gCi0 (gRunV (As := []) (rest := [.int c_at_v1]) ⟨hx, hb, hml, hown, hts⟩ (ctJ4_length_8abf5 l g a_tb b_att _ b_mlt b_countt hw) (cwV 0 hts gX3_countCommands_J4_length_8abf5 rfl rfl rfl (by decide +kernel) ⟨Nat.le_of_ble_eq_true rfl, Nat.le_of_ble_eq_true rfl⟩) hE (gSub hP [1]) (gDSub hD [1] rfl) 0 1 rfl rfl rfl rfl rfl hl.1 rfl (lv_room (Nat.le_of_ble_eq_true rfl)) dX3_countCommands_30 ⟨Nat.le_of_ble_eq_true rfl, Nat.le_of_ble_eq_true rfl⟩) hP hD hS hA [1] rfl rfl rfl (fun r2 H locs hw hP hD hS => ?_)
          have hP : va_P g.1 vwCl (List.flatten [kSc g a_sc a_tb c_values_v1 c_at_v1 c_verb_v1, kSO g a_tb b_att b_mlt b_countt, kBa g b_att b_capt b_bytest]) H := hP
          have hD : va_D A (List.flatten [kSc g a_sc a_tb c_values_v1 c_at_v1 c_verb_v1, kSO g a_tb b_att b_mlt b_countt, kBa g b_att b_capt b_bytest]) := hD
          refine lv_icmp_lt (tgt := 38) hx hb dX3_countCommands_33 (by decide) (fun c_33 => ?_) (fun c_33 => ?_)
          · have hw := hw.1 c_33
            refine lv_aload_n hx hb dX3_countCommands_38 rfl (lv_at hl 0 rfl) ?_
            refine lv_aload_n hx hb dX3_countCommands_39 rfl (lv_at hl 0 rfl) ?_
            refine va_get (D := g.1) (ci := 7) (v := .int c_at_v1) (C := RX3) (T := TX3) (N := 4) hx hb hts inX3_countCommands_X3 hown hE.1 hP 0 rfl rfl 2 (by decide) (gW hts 1 (.fieldLink RX3 40 "SnowDispatcher$Script" "at" "I") rfl) (fun _ h9 => h9) rfl dX3_countCommands_40 ?_
            refine gCi0 (gRunVX (As := [.int c_at_v1]) (rest := []) ⟨hx, hb, hml, hown, hts⟩ (ctX3_signAt l g t a_sc a_tb _ c_values_v1 c_at_v1 c_verb_v1 b_mlt b_countt b_att b_capt b_bytest c_at_v1 hw) (cwV 1 hts gX3_countCommands_X3_signAt rfl rfl rfl (by decide +kernel) ⟨Nat.le_of_ble_eq_true rfl, Nat.le_of_ble_eq_true rfl⟩) hE hX hS (gFree hD hS hA [0, 1, 2]) (gSub hP [0, 1, 2]) (gDSub hD [0, 1, 2] rfl) 0 7 rfl rfl rfl rfl rfl hl.1 rfl (lv_room (Nat.le_of_ble_eq_true rfl)) dX3_countCommands_43 ⟨Nat.le_of_ble_eq_true rfl, Nat.le_of_ble_eq_true rfl⟩) hP hD hS hA [0, 1, 2] rfl rfl rfl (fun r3 H locs hw hP hD hS => ?_)
            have hP : va_P g.1 vwCl (List.flatten [kSc g a_sc a_tb c_values_v1 c_at_v1 c_verb_v1, kSO g a_tb b_att b_mlt b_countt, kBa g b_att b_capt b_bytest]) H := hP
            have hD : va_D A (List.flatten [kSc g a_sc a_tb c_values_v1 c_at_v1 c_verb_v1, kSO g a_tb b_att b_mlt b_countt, kBa g b_att b_capt b_bytest]) := hD
            refine lv_bipush (v := 59) hx hb dX3_countCommands_46 (by decide) ?_
            refine lv_icmp_eq (tgt := 53) hx hb dX3_countCommands_48 (by decide) (fun c_48 => ?_) (fun c_48 => ?_)
            · have hw := hw.1 c_48
              refine lv_aload_n hx hb dX3_countCommands_53 rfl (lv_at hl 0 rfl) ?_
              refine lv_dup hx hb dX3_countCommands_54 rfl ?_
              refine va_get (D := g.1) (ci := 7) (v := .int c_at_v1) (C := RX3) (T := TX3) (N := 4) hx hb hts inX3_countCommands_X3 hown hE.1 hP 0 rfl rfl 2 (by decide) (gW hts 1 (.fieldLink RX3 40 "SnowDispatcher$Script" "at" "I") rfl) (fun _ h9 => h9) rfl dX3_countCommands_55 ?_
              refine lv_iconst (v := 1) hx hb dX3_countCommands_58 (by decide) ?_
              refine lv_iadd hx hb dX3_countCommands_59 ?_
              refine va_put (D := g.1) (ci := 7) (v := .int (c_at_v1 + 1)) (ty := .int) (C := RX3) (T := TX3) (N := 4) hx hb hts inX3_countCommands_X3 tyX3 tyX3_ok nmX3 hown hE.1 hP hD hS 0 rfl rfl 2 (by decide) (gW hts 1 (.fieldLink RX3 40 "SnowDispatcher$Script" "at" "I") rfl) (fun _ h9 => h9) rfl (by decide +kernel) rfl rfl (Nat.le_of_ble_eq_true rfl) dX3_countCommands_60 (fun H locs hP hD hS => ?_)
              have hP : va_P g.1 vwCl (List.flatten [kSc g a_sc a_tb c_values_v1 (c_at_v1 + 1) c_verb_v1, kSO g a_tb b_att b_mlt b_countt, kBa g b_att b_capt b_bytest]) H := hP
              have hD : va_D A (List.flatten [kSc g a_sc a_tb c_values_v1 (c_at_v1 + 1) c_verb_v1, kSO g a_tb b_att b_mlt b_countt, kBa g b_att b_capt b_bytest]) := hD
              refine lv_iinc (v := (x1_7 + 1)) (lv' := [(1, .int (x1_7 + 1)), (0, .ref (a_sc 0))]) hx hb dX3_countCommands_63 hl (k := 1) rfl rfl (by decide) rfl (fun ls hl => ?_)
              refine lv_goto (tgt := 7) hx hb dX3_countCommands_66 (by decide) ?_
              exact ih_7 (x1_7 + 1) c_values_v1 (c_at_v1 + 1) c_verb_v1 _ _ _ hw hP hD hS (lv_sub hl [1, 0] rfl)
            · have hw := hw.2 c_48
              refine lv_iconst (v := (-1)) hx hb dX3_countCommands_51 (by decide) ?_
              subst hQ
              exact W.iret hx hb hr (gRi3 (c1 := c_values_v1) (c2 := c_at_v1) (c3 := c_verb_v1) (wf := _) hA0 hsz hw hP hD hS) hS.2.2 dX3_countCommands_52
          · have hw := hw.2 c_33
            refine lv_iload_n hx hb dX3_countCommands_36 rfl (lv_at hl 1 rfl) ?_
            subst hQ
            exact W.iret hx hb hr (gRi3 (c1 := c_values_v1) (c2 := c_at_v1) (c3 := c_verb_v1) (wf := _) hA0 hsz hw hP hD hS) hS.2.2 dX3_countCommands_37
        · have hw := hw.2 c_17
          refine lv_iconst (v := (-1)) hx hb dX3_countCommands_20 (by decide) ?_
          subst hQ
          exact W.iret hx hb hr (gRi3 (c1 := c_values_v1) (c2 := c_at_v1) (c3 := c_verb_v1) (wf := _) hA0 hsz hw hP hD hS) hS.2.2 dX3_countCommands_21
  refine lv_aload_n hx hb dX3_countCommands_0 rfl (lv_at hl 0 rfl) ?_
  refine lv_iconst (v := 0) hx hb dX3_countCommands_1 (by decide) ?_
  refine va_put (D := g.1) (ci := 7) (v := .int 0) (ty := .int) (C := RX3) (T := TX3) (N := 4) hx hb hts inX3_countCommands_X3 tyX3 tyX3_ok nmX3 hown hE.1 hP hD hS 0 rfl rfl 2 (by decide) (gW hts 1 (.fieldLink RX3 40 "SnowDispatcher$Script" "at" "I") rfl) (fun _ h9 => h9) rfl (by decide +kernel) rfl rfl (Nat.le_of_ble_eq_true rfl) dX3_countCommands_2 (fun H locs hP hD hS => ?_)
  have hP : va_P g.1 vwCl (List.flatten [kSc g a_sc a_tb c_values 0 c_verb, kSO g a_tb b_att b_mlt b_countt, kBa g b_att b_capt b_bytest]) H := hP
  have hD : va_D A (List.flatten [kSc g a_sc a_tb c_values 0 c_verb, kSO g a_tb b_att b_mlt b_countt, kBa g b_att b_capt b_bytest]) := hD
  refine lv_iconst (v := 1) hx hb dX3_countCommands_5 (by decide) ?_
  refine lv_istore_n (lv' := [(1, .int 1), (0, .ref (a_sc 0))]) hx hb dX3_countCommands_6 rfl hl (by decide) rfl (fun ls hl => ?_)
  obtain ⟨n, hw⟩ := hw
  exact L7 n 1 c_values 0 c_verb _ _ _ hw hP hD hS (lv_sub hl [1, 0] rfl)
abbrev rmX3_readNext : Room := { frames := 9, cells := 0, slots := 0, locals := 287 }
set_option maxRecDepth 20000 in
theorem inX3_readNext_J4 : ∀ w ∈ wsJ40, w ∈ wsX3_readNext := by decide +kernel
set_option maxRecDepth 20000 in
theorem inX3_readNext_X3 : ∀ w ∈ wsX30, w ∈ wsX3_readNext := by decide +kernel
set_option maxHeartbeats 4000000 in
set_option maxRecDepth 100000 in
theorem ctX3_readNext (l : Launch) (g : GG) (t : GT) (a_sc : Nat → Nat) (a_tb : Nat → Nat) (sz : Nat) (c_values : Nat → Int32) (c_at : Int32) (c_verb : Int32) (b_mlt : Int32) (b_countt : Int32) (b_att : Nat → Nat) (b_capt : Nat) (b_bytest : Nat → Int32) {post : (Nat → Int32) → Int32 → Int32 → Prop} (hw : wpX3_readNext c_values c_at c_verb b_countt b_capt b_bytest post) :
    Met l yX3_readNext wsX3_readNext rmX3_readNext (gPX g t sz (List.flatten [kSc g a_sc a_tb c_values c_at c_verb, kSO g a_tb b_att b_mlt b_countt, kBa g b_att b_capt b_bytest]) [.ref (a_sc 0)]) (gQv3 post (fun u1 u2 u3 => gB g (List.flatten [kSc g a_sc a_tb c_values c_at c_verb, kSO g a_tb b_att b_mlt b_countt, kBa g b_att b_capt b_bytest]) sz (List.flatten [kSc g a_sc a_tb u1 u2 u3, kSO g a_tb b_att b_mlt b_countt, kBa g b_att b_capt b_bytest])) (va_A (List.flatten [kSc g a_sc a_tb c_values c_at c_verb, kSO g a_tb b_att b_mlt b_countt, kBa g b_att b_capt b_bytest]) sz)) 0 0 (va_A (List.flatten [kSc g a_sc a_tb c_values c_at c_verb, kSO g a_tb b_att b_mlt b_countt, kBa g b_att b_capt b_bytest]) sz) := by
  refine gOfX (cc := cX3_readNext) (maxL := 1) (ret := none) (by decide) rfl (Nat.le_of_ble_eq_true rfl) ?_
  intro p e s m below meth c ls Q A hQ hx hb hr hml hts hown hlocks hE hA0 hsz hP hD hA hS hl hX
  have hl : lv_has ls 1 [(0, .ref (a_sc 0))] := hl
  refine lv_aload_n hx hb dX3_readNext_0 rfl (lv_at hl 0 rfl) ?_
  refine gCi3 (gRunVX (As := []) (rest := []) ⟨hx, hb, hml, hown, hts⟩ (ctX3_readCommand l g t a_sc a_tb _ c_values c_at c_verb b_mlt b_countt b_att b_capt b_bytest hw) (cwV 0 hts gX3_readNext_X3_readCommand rfl rfl rfl (by decide +kernel) ⟨Nat.le_of_ble_eq_true rfl, Nat.le_of_ble_eq_true rfl⟩) hE hX hS (gFree hD hS hA [0, 1, 2]) (gSub hP [0, 1, 2]) (gDSub hD [0, 1, 2] rfl) 0 7 rfl rfl rfl rfl rfl hl.1 rfl (lv_room (Nat.le_of_ble_eq_true rfl)) dX3_readNext_1 ⟨Nat.le_of_ble_eq_true rfl, Nat.le_of_ble_eq_true rfl⟩) hP hD hS hA [0, 1, 2] rfl (fun _ _ _ => rfl) rfl (fun r1 c_values_v1 c_at_v1 c_verb_v1 H locs hw hP hD hS => ?_)
  have hP : va_P g.1 vwCl (List.flatten [kSc g a_sc a_tb c_values_v1 c_at_v1 c_verb_v1, kSO g a_tb b_att b_mlt b_countt, kBa g b_att b_capt b_bytest]) H := hP
  have hD : va_D A (List.flatten [kSc g a_sc a_tb c_values_v1 c_at_v1 c_verb_v1, kSO g a_tb b_att b_mlt b_countt, kBa g b_att b_capt b_bytest]) := hD
  refine lv_pop hx hb dX3_readNext_4 rfl ?_
  refine lv_aload_n hx hb dX3_readNext_5 rfl (lv_at hl 0 rfl) ?_
  refine lv_dup hx hb dX3_readNext_6 rfl ?_
  refine va_get (D := g.1) (ci := 7) (v := .int c_at_v1) (C := RX3) (T := TX3) (N := 4) hx hb hts inX3_readNext_X3 hown hE.1 hP 0 rfl rfl 2 (by decide) (gW hts 1 (.fieldLink RX3 40 "SnowDispatcher$Script" "at" "I") rfl) (fun _ h9 => h9) rfl dX3_readNext_7 ?_
  refine lv_iconst (v := 1) hx hb dX3_readNext_10 (by decide) ?_
  refine lv_iadd hx hb dX3_readNext_11 ?_
  refine va_put (D := g.1) (ci := 7) (v := .int (c_at_v1 + 1)) (ty := .int) (C := RX3) (T := TX3) (N := 4) hx hb hts inX3_readNext_X3 tyX3 tyX3_ok nmX3 hown hE.1 hP hD hS 0 rfl rfl 2 (by decide) (gW hts 1 (.fieldLink RX3 40 "SnowDispatcher$Script" "at" "I") rfl) (fun _ h9 => h9) rfl (by decide +kernel) rfl rfl (Nat.le_of_ble_eq_true rfl) dX3_readNext_12 (fun H locs hP hD hS => ?_)
  have hP : va_P g.1 vwCl (List.flatten [kSc g a_sc a_tb c_values_v1 (c_at_v1 + 1) c_verb_v1, kSO g a_tb b_att b_mlt b_countt, kBa g b_att b_capt b_bytest]) H := hP
  have hD : va_D A (List.flatten [kSc g a_sc a_tb c_values_v1 (c_at_v1 + 1) c_verb_v1, kSO g a_tb b_att b_mlt b_countt, kBa g b_att b_capt b_bytest]) := hD
  subst hQ
  exact W.vret hx hb hr (gRv3 (c1 := c_values_v1) (c2 := (c_at_v1 + 1)) (c3 := c_verb_v1) (wf := _) hA0 hsz hw hP hD hS) hS.2.2 dX3_readNext_15
abbrev rmX3_value : Room := { frames := 1, cells := 0, slots := 0, locals := 100 }
set_option maxRecDepth 20000 in
theorem inX3_value_X3 : ∀ w ∈ wsX30, w ∈ wsX3_value := by decide +kernel
set_option maxHeartbeats 4000000 in
set_option maxRecDepth 100000 in
theorem ctX3_value (l : Launch) (g : GG) (a_sc : Nat → Nat) (a_tb : Nat → Nat) (sz : Nat) (c_values : Nat → Int32) (c_at : Int32) (c_verb : Int32) (x1 : Int32) {post : Int32 → Prop} (hw : wpX3_value x1 c_values post) :
    Met l yX3_value wsX3_value rmX3_value (gPc g sz (List.flatten [kSc g a_sc a_tb c_values c_at c_verb]) [.ref (a_sc 0), .int x1]) (gQi0 post (gB g (List.flatten [kSc g a_sc a_tb c_values c_at c_verb]) sz (List.flatten [kSc g a_sc a_tb c_values c_at c_verb])) (va_A (List.flatten [kSc g a_sc a_tb c_values c_at c_verb]) sz)) 0 0 (va_A (List.flatten [kSc g a_sc a_tb c_values c_at c_verb]) sz) := by
  refine gOf (cc := cX3_value) (maxL := 2) (ret := (some .int)) (by decide) rfl (Nat.le_of_ble_eq_true rfl) ?_
  intro p e s m below meth c ls Q A hQ hx hb hr hml hts hown hlocks hE hA0 hsz hP hD hA hS hl
  have hl : lv_has ls 2 [(0, .ref (a_sc 0)), (1, .int x1)] := hl
  refine lv_iload_n hx hb dX3_value_0 rfl (lv_at hl 1 rfl) ?_
  refine lv_if_lt (tgt := 18) hx hb dX3_value_1 (by decide) (fun c_1 => ?_) (fun c_1 => ?_)
  · have hw := hw.1 c_1
    refine lv_iconst (v := 0) hx hb dX3_value_18 (by decide) ?_
    subst hQ
    exact W.iret hx hb hr (gRi0 (wf := _) hA0 hsz hw hP hD hS) hS.2.2 dX3_value_19
  · have hw := hw.2 c_1
    refine lv_iload_n hx hb dX3_value_4 rfl (lv_at hl 1 rfl) ?_
    refine lv_iconst (v := 4) hx hb dX3_value_5 (by decide) ?_
    refine lv_icmp_ge (tgt := 18) hx hb dX3_value_6 (by decide) (fun c_6 => ?_) (fun c_6 => ?_)
    · have hw := hw.1 c_6
      refine lv_iconst (v := 0) hx hb dX3_value_18 (by decide) ?_
      subst hQ
      exact W.iret hx hb hr (gRi0 (wf := _) hA0 hsz hw hP hD hS) hS.2.2 dX3_value_19
    · have hw := hw.2 c_6
      refine lv_aload_n hx hb dX3_value_9 rfl (lv_at hl 0 rfl) ?_
      refine va_get (D := g.1) (ci := 7) (v := .ref (a_sc 1)) (C := RX3) (T := TX3) (N := 4) hx hb hts inX3_value_X3 hown hE.1 hP 0 rfl rfl 1 (by decide) (gW hts 1 (.fieldLink RX3 18 "SnowDispatcher$Script" "values" "[I") rfl) (fun _ h9 => h9) rfl dX3_value_10 ?_
      refine lv_iload_n hx hb dX3_value_13 rfl (lv_at hl 1 rfl) ?_
      have h1 := hw.1
      have hw := hw.2
      refine va_iald hx hb hE.1 hP 1 0 rfl rfl h1 dX3_value_14 ?_
      refine lv_goto (tgt := 19) hx hb dX3_value_15 (by decide) ?_
      subst hQ
      exact W.iret hx hb hr (gRi0 (wf := _) hA0 hsz hw hP hD hS) hS.2.2 dX3_value_19
