/-! by program (wip/p56/gen/str56.py) -/
def kSo (g : GG) (a e_value : Nat → Nat) : va_W := [(a 0, .inr (0, [.ref (e_value 0), .int 0, .int 0, .int 0]))]
abbrev rmJ5_append_cf1ce_g : Room := { frames := 5, cells := 1, slots := 200, locals := 423 }
set_option maxHeartbeats 4000000 in
set_option maxRecDepth 100000 in
theorem ctJ5_append_cf1ce_g (l : Launch) (g : GG) (t : GT) (a_sb : Nat → Nat) (sz : Nat) (b_ml : Int32) (b_count : Int32) (b_at : Nat → Nat) (b_cap : Nat) (b_bytes : Nat → Int32) (k_su : Nat) (su_len : Nat) (su_txt : Nat → Int32) (hk_su : gIs k_su su_len su_txt) {post : Int32 → (Nat → Nat) → Nat → (Nat → Int32) → Prop} (hw : wpJ5_append_cf1ce_g su_len su_txt b_count b_at b_cap b_bytes post) :
    Met l yJ5_append_cf1ce wsJ5_append_cf1ce rmJ5_append_cf1ce_g (gPX g t sz (List.flatten [kSO g a_sb b_at b_ml b_count, kBa g b_at b_cap b_bytes]) [.ref (a_sb 0), .ref (t.1 k_su)]) (gQr4 post (fun u1 u2 u3 u4 => gB g (List.flatten [kSO g a_sb b_at b_ml b_count, kBa g b_at b_cap b_bytes]) sz (List.flatten [kSO g a_sb u2 b_ml u1, kBa g u2 u3 u4])) (va_A (List.flatten [kSO g a_sb b_at b_ml b_count, kBa g b_at b_cap b_bytes]) sz)) 1 200 (va_A (List.flatten [kSO g a_sb b_at b_ml b_count, kBa g b_at b_cap b_bytes]) sz) := by
  refine gOfX (cc := cJ5_append_cf1ce) (maxL := 3) (ret := (some (.object "java/lang/AbstractStringBuilder"))) (by decide) rfl (Nat.le_of_ble_eq_true rfl) ?_
  intro p e s m below meth c ls Q A hQ hx hb hr hml hts hown hlocks hE hA0 hsz hP hD hA hS hl hX
  have hz_su := hX.str hk_su
  have hl : lv_has ls 3 [(0, .ref (a_sb 0)), (1, .ref (t.1 k_su))] := hl
  refine lv_aload_n hx hb dJ5_append_cf1ce_0 rfl (lv_at hl 1 rfl) ?_
  refine lv_ifnonnull (tgt := 9) hx hb dJ5_append_cf1ce_1 (by decide) ?_
  refine lv_aload_n hx hb dJ5_append_cf1ce_9 rfl (lv_at hl 1 rfl) ?_
  refine gCi0 (gRunVr (As := []) (rest := []) ⟨hx, hb, hml, hown, hts⟩ (ctJ0_length_8abf5 l g t _ k_su su_len su_txt hk_su hw) (cwV 0 hts gJ5_append_cf1ce_J0_length_8abf5 rfl rfl rfl (by decide +kernel) ⟨Nat.le_of_ble_eq_true rfl, Nat.le_of_ble_eq_true rfl⟩) hE hX hS (gFree hD hS hA []) (gSub hP []) (gDSub hD [] rfl) (hz_su.recv hS) rfl rfl hl.1 rfl (lv_room (Nat.le_of_ble_eq_true rfl)) dJ5_append_cf1ce_10 ⟨Nat.le_of_ble_eq_true rfl, Nat.le_of_ble_eq_true rfl⟩) hP hD hS hA [] rfl rfl rfl (fun r1 H locs hw hP hD hS => ?_)
  have hP : va_P g.1 vwCl (List.flatten [kSO g a_sb b_at b_ml b_count, kBa g b_at b_cap b_bytes]) H := hP
  have hD : va_D A (List.flatten [kSO g a_sb b_at b_ml b_count, kBa g b_at b_cap b_bytes]) := hD
  refine lv_istore_n (lv' := [(2, .int r1), (0, .ref (a_sb 0)), (1, .ref (t.1 k_su))]) hx hb dJ5_append_cf1ce_13 rfl hl (by decide) rfl (fun ls hl => ?_)
  refine lv_aload_n hx hb dJ5_append_cf1ce_14 rfl (lv_at hl 1 rfl) ?_
  refine lv_aload_n hx hb dJ5_append_cf1ce_15 rfl (lv_at hl 1 rfl) ?_
  refine va_get (D := g.1) (ci := 1) (v := .int b_count) (C := RJ4) (T := TJ4) (N := 4) hx hb hts inJ5_append_cf1ce_J4 hown hE.1 hP 0 rfl rfl 3 (by decide) (gW hts 1 (.fieldLink RJ5 79 "java/lang/AbstractStringBuilder" "count" "I") rfl) (fun _ h9 => h9) rfl dJ5_append_cf1ce_16 ?_
  refine lv_iload_n hx hb dJ5_append_cf1ce_19 rfl (lv_at hl 0 rfl) ?_
  refine lv_iadd hx hb dJ5_append_cf1ce_20 ?_
  refine gCv3 (gRunUX (As := [.int (b_count + r1)]) (rest := []) ⟨hx, hb, hml, hown, hts⟩ (ctJ5_ensureCapacityInternal_d00df_g l g t a_sb _ b_ml b_count b_at b_cap b_bytes (b_count + r1) hw) (va_cwU 1 hts gJ5_append_cf1ce_J5_ensureCapacityInternal_d00df_u100J4 rfl rfl rfl rfl (by decide +kernel) ⟨Nat.le_of_ble_eq_true rfl, Nat.le_of_ble_eq_true rfl⟩) hE hX hS (gFree hD hS hA [0, 1]) (gSub hP [0, 1]) (gDSub hD [0, 1] rfl) 0 1 rfl rfl rfl rfl rfl hl.1 rfl (lv_room (Nat.le_of_ble_eq_true rfl)) dJ5_append_cf1ce_21 ⟨Nat.le_of_ble_eq_true rfl, Nat.le_of_ble_eq_true rfl⟩) hP hD hS hA [0, 1] rfl (fun _ _ _ => rfl) rfl (fun b_at_v2 b_cap_v2 b_bytes_v2 H locs hw hP hD hS => ?_)
  have hP : va_P g.1 vwCl (List.flatten [kSO g a_sb b_at_v2 b_ml b_count, kBa g b_at_v2 b_cap_v2 b_bytes_v2]) H := hP
  have hD : va_D A (List.flatten [kSO g a_sb b_at_v2 b_ml b_count, kBa g b_at_v2 b_cap_v2 b_bytes_v2]) := hD
  refine lv_aload_n hx hb dJ5_append_cf1ce_24 rfl (lv_at hl 1 rfl) ?_
  refine lv_aload_n hx hb dJ5_append_cf1ce_25 rfl (lv_at hl 1 rfl) ?_
  refine va_get (D := g.1) (ci := 1) (v := .int b_count) (C := RJ4) (T := TJ4) (N := 4) hx hb hts inJ5_append_cf1ce_J4 hown hE.1 hP 0 rfl rfl 3 (by decide) (gW hts 1 (.fieldLink RJ5 79 "java/lang/AbstractStringBuilder" "count" "I") rfl) (fun _ h9 => h9) rfl dJ5_append_cf1ce_26 ?_
  refine lv_aload_n hx hb dJ5_append_cf1ce_29 rfl (lv_at hl 2 rfl) ?_
  refine gCv1 (gRunUX (As := [.int b_count, .ref (t.1 k_su)]) (rest := []) ⟨hx, hb, hml, hown, hts⟩ (ctJ5_putStringAt_47b60 l g t a_sb _ b_ml b_count b_at_v2 b_cap_v2 b_bytes_v2 k_su su_len su_txt hk_su b_count hw) (va_cwU 2 hts gJ5_append_cf1ce_J5_putStringAt_47b60_u208J4 rfl rfl rfl rfl (by decide +kernel) ⟨Nat.le_of_ble_eq_true rfl, Nat.le_of_ble_eq_true rfl⟩) hE hX hS (gFree hD hS hA [0, 1]) (gSub hP [0, 1]) (gDSub hD [0, 1] rfl) 0 1 rfl rfl rfl rfl rfl hl.1 rfl (lv_room (Nat.le_of_ble_eq_true rfl)) dJ5_append_cf1ce_30 ⟨Nat.le_of_ble_eq_true rfl, Nat.le_of_ble_eq_true rfl⟩) hP hD hS hA [0, 1] rfl (fun _ => rfl) rfl (fun b_bytes_v3 H locs hw hP hD hS => ?_)
  have hP : va_P g.1 vwCl (List.flatten [kSO g a_sb b_at_v2 b_ml b_count, kBa g b_at_v2 b_cap_v2 b_bytes_v3]) H := hP
  have hD : va_D A (List.flatten [kSO g a_sb b_at_v2 b_ml b_count, kBa g b_at_v2 b_cap_v2 b_bytes_v3]) := hD
  refine lv_aload_n hx hb dJ5_append_cf1ce_33 rfl (lv_at hl 1 rfl) ?_
  refine lv_dup hx hb dJ5_append_cf1ce_34 rfl ?_
  refine va_get (D := g.1) (ci := 1) (v := .int b_count) (C := RJ4) (T := TJ4) (N := 4) hx hb hts inJ5_append_cf1ce_J4 hown hE.1 hP 0 rfl rfl 3 (by decide) (gW hts 1 (.fieldLink RJ5 79 "java/lang/AbstractStringBuilder" "count" "I") rfl) (fun _ h9 => h9) rfl dJ5_append_cf1ce_35 ?_
  refine lv_iload_n hx hb dJ5_append_cf1ce_38 rfl (lv_at hl 0 rfl) ?_
  refine lv_iadd hx hb dJ5_append_cf1ce_39 ?_
  refine va_put (D := g.1) (ci := 1) (v := .int (b_count + r1)) (ty := .int) (C := RJ4) (T := TJ4) (N := 4) hx hb hts inJ5_append_cf1ce_J4 tyJ4 tyJ4_ok nmJ4 hown hE.1 hP hD hS 0 rfl rfl 3 (by decide) (gW hts 1 (.fieldLink RJ5 79 "java/lang/AbstractStringBuilder" "count" "I") rfl) (fun _ h9 => h9) rfl (by decide +kernel) rfl rfl (Nat.le_of_ble_eq_true rfl) dJ5_append_cf1ce_40 (fun H locs hP hD hS => ?_)
  have hP : va_P g.1 vwCl (List.flatten [kSO g a_sb b_at_v2 b_ml (b_count + r1), kBa g b_at_v2 b_cap_v2 b_bytes_v3]) H := hP
  have hD : va_D A (List.flatten [kSO g a_sb b_at_v2 b_ml (b_count + r1), kBa g b_at_v2 b_cap_v2 b_bytes_v3]) := hD
  refine lv_aload_n hx hb dJ5_append_cf1ce_43 rfl (lv_at hl 1 rfl) ?_
  subst hQ
  refine W.widen (k := 1) (n := 200) (Nat.le_of_ble_eq_true rfl) (Nat.le_of_ble_eq_true rfl) ?_
  exact W.aret hx hb hr (Or.inl ⟨_, rfl⟩) (Or.inr ⟨_, rfl⟩) (gRr4 (c1 := (b_count + r1)) (c2 := b_at_v2) (c3 := b_cap_v2) (c4 := b_bytes_v3) (wf := _) hA0 hsz hw hP hD hS) hS.2.2 dJ5_append_cf1ce_44
abbrev rmJ4_append_15ec4_g : Room := { frames := 6, cells := 1, slots := 200, locals := 446 }
set_option maxHeartbeats 4000000 in
set_option maxRecDepth 100000 in
theorem ctJ4_append_15ec4_g (l : Launch) (g : GG) (t : GT) (a_sb : Nat → Nat) (sz : Nat) (b_ml : Int32) (b_count : Int32) (b_at : Nat → Nat) (b_cap : Nat) (b_bytes : Nat → Int32) (k_su : Nat) (su_len : Nat) (su_txt : Nat → Int32) (hk_su : gIs k_su su_len su_txt) {post : Int32 → (Nat → Nat) → Nat → (Nat → Int32) → Prop} (hw : wpJ4_append_15ec4_g su_len su_txt b_count b_at b_cap b_bytes post) :
    Met l yJ4_append_15ec4 wsJ4_append_15ec4 rmJ4_append_15ec4_g (gPX g t sz (List.flatten [kSO g a_sb b_at b_ml b_count, kBa g b_at b_cap b_bytes]) [.ref (a_sb 0), .ref (t.1 k_su)]) (va_Qr (fun w : Int32 × (Nat → Nat) × Nat × (Nat → Int32) => post w.1 w.2.1 w.2.2.1 w.2.2.2) (fun w a tt => a = a_sb 0 ∧ gB g (List.flatten [kSO g a_sb b_at b_ml b_count, kBa g b_at b_cap b_bytes]) sz (List.flatten [kSO g a_sb w.2.1 b_ml w.1, kBa g w.2.1 w.2.2.1 w.2.2.2]) tt) (va_A (List.flatten [kSO g a_sb b_at b_ml b_count, kBa g b_at b_cap b_bytes]) sz)) 1 200 (va_A (List.flatten [kSO g a_sb b_at b_ml b_count, kBa g b_at b_cap b_bytes]) sz) := by
  refine gOfX (cc := cJ4_append_15ec4) (maxL := 2) (ret := (some (.object "java/lang/StringBuilder"))) (by decide) rfl (Nat.le_of_ble_eq_true rfl) ?_
  intro p e s m below meth c ls Q A hQ hx hb hr hml hts hown hlocks hE hA0 hsz hP hD hA hS hl hX
  have hz_su := hX.str hk_su
  have hl : lv_has ls 2 [(0, .ref (a_sb 0)), (1, .ref (t.1 k_su))] := hl
  refine lv_aload_n hx hb dJ4_append_15ec4_0 rfl (lv_at hl 0 rfl) ?_
  refine lv_aload_n hx hb dJ4_append_15ec4_1 rfl (lv_at hl 1 rfl) ?_
  refine gCr4 (gRunSUX (As := [.ref (t.1 k_su)]) (rest := []) ⟨hx, hb, hml, hown, hts⟩ (ctJ5_append_cf1ce_g l g t a_sb _ b_ml b_count b_at b_cap b_bytes k_su su_len su_txt hk_su hw) (va_cwSU 1 hts gJ4_append_15ec4_J5_append_cf1ce_s29 rfl rfl rfl (by decide +kernel) ⟨Nat.le_of_ble_eq_true rfl, Nat.le_of_ble_eq_true rfl⟩) hE hX hS (gFree hD hS hA [0, 1]) (gSub hP [0, 1]) (gDSub hD [0, 1] rfl) 0 1 rfl rfl rfl rfl rfl hl.1 rfl (lv_room (Nat.le_of_ble_eq_true rfl)) dJ4_append_15ec4_2 ⟨Nat.le_of_ble_eq_true rfl, Nat.le_of_ble_eq_true rfl⟩) hP hD hS hA [0, 1] rfl (fun _ _ _ _ => rfl) rfl (fun ra1 b_count_v1 b_at_v1 b_cap_v1 b_bytes_v1 H locs hw hP hD hS => ?_)
  have hP : va_P g.1 vwCl (List.flatten [kSO g a_sb b_at_v1 b_ml b_count_v1, kBa g b_at_v1 b_cap_v1 b_bytes_v1]) H := hP
  have hD : va_D A (List.flatten [kSO g a_sb b_at_v1 b_ml b_count_v1, kBa g b_at_v1 b_cap_v1 b_bytes_v1]) := hD
  refine lv_pop hx hb dJ4_append_15ec4_5 rfl ?_
  refine lv_aload_n hx hb dJ4_append_15ec4_6 rfl (lv_at hl 0 rfl) ?_
  subst hQ
  refine W.widen (k := 1) (n := 200) (Nat.le_of_ble_eq_true rfl) (Nat.le_of_ble_eq_true rfl) ?_
  exact W.aret hx hb hr (Or.inl ⟨_, rfl⟩) (Or.inr ⟨_, rfl⟩) (gRn (w := (b_count_v1, b_at_v1, b_cap_v1, b_bytes_v1)) (ad := fun _ => a_sb 0) (wf := (fun w : Int32 × (Nat → Nat) × Nat × (Nat → Int32) => [kSO g a_sb w.2.1 b_ml w.1, kBa g w.2.1 w.2.2.1 w.2.2.2])) hA0 hsz hw hP hD hS) hS.2.2 dJ4_append_15ec4_7
abbrev rmJ5_append_c97b9_g : Room := { frames := 5, cells := 1, slots := 200, locals := 423 }
set_option maxHeartbeats 4000000 in
set_option maxRecDepth 100000 in
theorem ctJ5_append_c97b9_g (l : Launch) (g : GG) (t : GT) (a_sb : Nat → Nat) (sz : Nat) (b_ml : Int32) (b_count : Int32) (b_at : Nat → Nat) (b_cap : Nat) (b_bytes : Nat → Int32) (x1 : Int32) {post : Int32 → (Nat → Nat) → Nat → (Nat → Int32) → Prop} (hw : wpJ5_append_c97b9_g x1 b_count b_at b_cap b_bytes post) :
    Met l yJ5_append_c97b9 wsJ5_append_c97b9 rmJ5_append_c97b9_g (gPX g t sz (List.flatten [kSO g a_sb b_at b_ml b_count, kBa g b_at b_cap b_bytes]) [.ref (a_sb 0), .int x1]) (gQr4 post (fun u1 u2 u3 u4 => gB g (List.flatten [kSO g a_sb b_at b_ml b_count, kBa g b_at b_cap b_bytes]) sz (List.flatten [kSO g a_sb u2 b_ml u1, kBa g u2 u3 u4])) (va_A (List.flatten [kSO g a_sb b_at b_ml b_count, kBa g b_at b_cap b_bytes]) sz)) 1 200 (va_A (List.flatten [kSO g a_sb b_at b_ml b_count, kBa g b_at b_cap b_bytes]) sz) := by
  refine gOfX (cc := cJ5_append_c97b9) (maxL := 4) (ret := (some (.object "java/lang/AbstractStringBuilder"))) (by decide) rfl (Nat.le_of_ble_eq_true rfl) ?_
  intro p e s m below meth c ls Q A hQ hx hb hr hml hts hown hlocks hE hA0 hsz hP hD hA hS hl hX
  have hl : lv_has ls 4 [(0, .ref (a_sb 0)), (1, .int x1)] := hl
  refine lv_aload_n hx hb dJ5_append_c97b9_0 rfl (lv_at hl 0 rfl) ?_
  refine va_get (D := g.1) (ci := 1) (v := .int b_count) (C := RJ4) (T := TJ4) (N := 4) hx hb hts inJ5_append_c97b9_J4 hown hE.1 hP 0 rfl rfl 3 (by decide) (gW hts 1 (.fieldLink RJ5 79 "java/lang/AbstractStringBuilder" "count" "I") rfl) (fun _ h9 => h9) rfl dJ5_append_c97b9_1 ?_
  refine lv_istore_n (lv' := [(2, .int b_count), (0, .ref (a_sb 0)), (1, .int x1)]) hx hb dJ5_append_c97b9_4 rfl hl (by decide) rfl (fun ls hl => ?_)
  refine lv_iload_n hx hb dJ5_append_c97b9_5 rfl (lv_at hl 0 rfl) ?_
  refine lv_iload_n hx hb dJ5_append_c97b9_6 rfl (lv_at hl 2 rfl) ?_
  refine gCi0 (gRunS (As := [.int x1]) (rest := [.int b_count]) ⟨hx, hb, hml, hown, hts⟩ (ctJ6_stringSize_0f7a4 l g _ x1 hw) (va_cwS 1 hts gJ5_append_c97b9_J6_stringSize_0f7a4 rfl rfl rfl (by decide +kernel) ⟨Nat.le_of_ble_eq_true rfl, Nat.le_of_ble_eq_true rfl⟩) hE (gSub hP []) (gDSub hD [] rfl) rfl rfl hl.1 rfl (lv_room (Nat.le_of_ble_eq_true rfl)) dJ5_append_c97b9_7 ⟨Nat.le_of_ble_eq_true rfl, Nat.le_of_ble_eq_true rfl⟩) hP hD hS hA [] rfl rfl rfl (fun r1 H locs hw hP hD hS => ?_)
  have hP : va_P g.1 vwCl (List.flatten [kSO g a_sb b_at b_ml b_count, kBa g b_at b_cap b_bytes]) H := hP
  have hD : va_D A (List.flatten [kSO g a_sb b_at b_ml b_count, kBa g b_at b_cap b_bytes]) := hD
  refine lv_iadd hx hb dJ5_append_c97b9_10 ?_
  refine lv_istore_n (lv' := [(3, .int (b_count + r1)), (2, .int b_count), (0, .ref (a_sb 0)), (1, .int x1)]) hx hb dJ5_append_c97b9_11 rfl hl (by decide) rfl (fun ls hl => ?_)
  refine lv_aload_n hx hb dJ5_append_c97b9_12 rfl (lv_at hl 2 rfl) ?_
  refine lv_iload_n hx hb dJ5_append_c97b9_13 rfl (lv_at hl 0 rfl) ?_
  refine gCv3 (gRunUX (As := [.int (b_count + r1)]) (rest := []) ⟨hx, hb, hml, hown, hts⟩ (ctJ5_ensureCapacityInternal_d00df_g l g t a_sb _ b_ml b_count b_at b_cap b_bytes (b_count + r1) hw) (va_cwU 1 hts gJ5_append_c97b9_J5_ensureCapacityInternal_d00df_u100J4 rfl rfl rfl rfl (by decide +kernel) ⟨Nat.le_of_ble_eq_true rfl, Nat.le_of_ble_eq_true rfl⟩) hE hX hS (gFree hD hS hA [0, 1]) (gSub hP [0, 1]) (gDSub hD [0, 1] rfl) 0 1 rfl rfl rfl rfl rfl hl.1 rfl (lv_room (Nat.le_of_ble_eq_true rfl)) dJ5_append_c97b9_14 ⟨Nat.le_of_ble_eq_true rfl, Nat.le_of_ble_eq_true rfl⟩) hP hD hS hA [0, 1] rfl (fun _ _ _ => rfl) rfl (fun b_at_v2 b_cap_v2 b_bytes_v2 H locs hw hP hD hS => ?_)
  have hP : va_P g.1 vwCl (List.flatten [kSO g a_sb b_at_v2 b_ml b_count, kBa g b_at_v2 b_cap_v2 b_bytes_v2]) H := hP
  have hD : va_D A (List.flatten [kSO g a_sb b_at_v2 b_ml b_count, kBa g b_at_v2 b_cap_v2 b_bytes_v2]) := hD
  refine lv_aload_n hx hb dJ5_append_c97b9_17 rfl (lv_at hl 2 rfl) ?_
  refine gCi0 (gRunUX (As := []) (rest := []) ⟨hx, hb, hml, hown, hts⟩ (ctJ5_isLatin1_aae02 l g t a_sb b_at_v2 _ b_ml b_count hw) (va_cwU 0 hts gJ5_append_c97b9_J5_isLatin1_aae02_u83J4 rfl rfl rfl rfl (by decide +kernel) ⟨Nat.le_of_ble_eq_true rfl, Nat.le_of_ble_eq_true rfl⟩) hE hX hS (gFree hD hS hA [0]) (gSub hP [0]) (gDSub hD [0] rfl) 0 1 rfl rfl rfl rfl rfl hl.1 rfl (lv_room (Nat.le_of_ble_eq_true rfl)) dJ5_append_c97b9_18 ⟨Nat.le_of_ble_eq_true rfl, Nat.le_of_ble_eq_true rfl⟩) hP hD hS hA [0] rfl rfl rfl (fun r3 H locs hw hP hD hS => ?_)
  have hP : va_P g.1 vwCl (List.flatten [kSO g a_sb b_at_v2 b_ml b_count, kBa g b_at_v2 b_cap_v2 b_bytes_v2]) H := hP
  have hD : va_D A (List.flatten [kSO g a_sb b_at_v2 b_ml b_count, kBa g b_at_v2 b_cap_v2 b_bytes_v2]) := hD
  refine lv_if_eq (tgt := 37) hx hb dJ5_append_c97b9_21 (by decide) (fun c_21 => (hw.1 c_21).elim) (fun c_21 => ?_)
  have hw := hw.2 c_21
  refine lv_iload_n hx hb dJ5_append_c97b9_24 rfl (lv_at hl 3 rfl) ?_
  refine lv_iload_n hx hb dJ5_append_c97b9_25 rfl (lv_at hl 0 rfl) ?_
  refine lv_aload_n hx hb dJ5_append_c97b9_26 rfl (lv_at hl 2 rfl) ?_
  refine va_get (D := g.1) (ci := 1) (v := .ref (b_at_v2 0)) (C := RJ4) (T := TJ4) (N := 4) hx hb hts inJ5_append_c97b9_J4 hown hE.1 hP 0 rfl rfl 0 (by decide) (gW hts 2 (.fieldLink RJ5 15 "java/lang/AbstractStringBuilder" "value" "[B") rfl) (fun _ h9 => h9) rfl dJ5_append_c97b9_27 ?_
  refine gCi1 (gRunSX (As := [.int x1, .int (b_count + r1), .ref (b_at_v2 0)]) (rest := []) ⟨hx, hb, hml, hown, hts⟩ (ctJ6_getChars_ba4f3 l g t _ b_at_v2 b_cap_v2 b_bytes_v2 x1 (b_count + r1) hw) (va_cwS 3 hts gJ5_append_c97b9_J6_getChars_ba4f3 rfl rfl rfl (by decide +kernel) ⟨Nat.le_of_ble_eq_true rfl, Nat.le_of_ble_eq_true rfl⟩) hE hX hS (gFree hD hS hA [1]) (gSub hP [1]) (gDSub hD [1] rfl) rfl rfl hl.1 rfl (lv_room (Nat.le_of_ble_eq_true rfl)) dJ5_append_c97b9_30 ⟨Nat.le_of_ble_eq_true rfl, Nat.le_of_ble_eq_true rfl⟩) hP hD hS hA [1] rfl (fun _ => rfl) rfl (fun r4 b_bytes_v4 H locs hw hP hD hS => ?_)
  have hP : va_P g.1 vwCl (List.flatten [kSO g a_sb b_at_v2 b_ml b_count, kBa g b_at_v2 b_cap_v2 b_bytes_v4]) H := hP
  have hD : va_D A (List.flatten [kSO g a_sb b_at_v2 b_ml b_count, kBa g b_at_v2 b_cap_v2 b_bytes_v4]) := hD
  refine lv_pop hx hb dJ5_append_c97b9_33 rfl ?_
  refine lv_goto (tgt := 48) hx hb dJ5_append_c97b9_34 (by decide) ?_
  refine lv_aload_n hx hb dJ5_append_c97b9_48 rfl (lv_at hl 2 rfl) ?_
  refine lv_iload_n hx hb dJ5_append_c97b9_49 rfl (lv_at hl 0 rfl) ?_
  refine va_put (D := g.1) (ci := 1) (v := .int (b_count + r1)) (ty := .int) (C := RJ4) (T := TJ4) (N := 4) hx hb hts inJ5_append_c97b9_J4 tyJ4 tyJ4_ok nmJ4 hown hE.1 hP hD hS 0 rfl rfl 3 (by decide) (gW hts 1 (.fieldLink RJ5 79 "java/lang/AbstractStringBuilder" "count" "I") rfl) (fun _ h9 => h9) rfl (by decide +kernel) rfl rfl (Nat.le_of_ble_eq_true rfl) dJ5_append_c97b9_50 (fun H locs hP hD hS => ?_)
  have hP : va_P g.1 vwCl (List.flatten [kSO g a_sb b_at_v2 b_ml (b_count + r1), kBa g b_at_v2 b_cap_v2 b_bytes_v4]) H := hP
  have hD : va_D A (List.flatten [kSO g a_sb b_at_v2 b_ml (b_count + r1), kBa g b_at_v2 b_cap_v2 b_bytes_v4]) := hD
  refine lv_aload_n hx hb dJ5_append_c97b9_53 rfl (lv_at hl 2 rfl) ?_
  subst hQ
  refine W.widen (k := 1) (n := 200) (Nat.le_of_ble_eq_true rfl) (Nat.le_of_ble_eq_true rfl) ?_
  exact W.aret hx hb hr (Or.inl ⟨_, rfl⟩) (Or.inr ⟨_, rfl⟩) (gRr4 (c1 := (b_count + r1)) (c2 := b_at_v2) (c3 := b_cap_v2) (c4 := b_bytes_v4) (wf := _) hA0 hsz hw hP hD hS) hS.2.2 dJ5_append_c97b9_54
abbrev rmJ4_append_bf812_g : Room := { frames := 6, cells := 1, slots := 200, locals := 447 }
set_option maxHeartbeats 4000000 in
set_option maxRecDepth 100000 in
theorem ctJ4_append_bf812_g (l : Launch) (g : GG) (t : GT) (a_sb : Nat → Nat) (sz : Nat) (b_ml : Int32) (b_count : Int32) (b_at : Nat → Nat) (b_cap : Nat) (b_bytes : Nat → Int32) (x1 : Int32) {post : Int32 → (Nat → Nat) → Nat → (Nat → Int32) → Prop} (hw : wpJ4_append_bf812_g x1 b_count b_at b_cap b_bytes post) :
    Met l yJ4_append_bf812 wsJ4_append_bf812 rmJ4_append_bf812_g (gPX g t sz (List.flatten [kSO g a_sb b_at b_ml b_count, kBa g b_at b_cap b_bytes]) [.ref (a_sb 0), .int x1]) (va_Qr (fun w : Int32 × (Nat → Nat) × Nat × (Nat → Int32) => post w.1 w.2.1 w.2.2.1 w.2.2.2) (fun w a tt => a = a_sb 0 ∧ gB g (List.flatten [kSO g a_sb b_at b_ml b_count, kBa g b_at b_cap b_bytes]) sz (List.flatten [kSO g a_sb w.2.1 b_ml w.1, kBa g w.2.1 w.2.2.1 w.2.2.2]) tt) (va_A (List.flatten [kSO g a_sb b_at b_ml b_count, kBa g b_at b_cap b_bytes]) sz)) 1 200 (va_A (List.flatten [kSO g a_sb b_at b_ml b_count, kBa g b_at b_cap b_bytes]) sz) := by
  refine gOfX (cc := cJ4_append_bf812) (maxL := 2) (ret := (some (.object "java/lang/StringBuilder"))) (by decide) rfl (Nat.le_of_ble_eq_true rfl) ?_
  intro p e s m below meth c ls Q A hQ hx hb hr hml hts hown hlocks hE hA0 hsz hP hD hA hS hl hX
  have hl : lv_has ls 2 [(0, .ref (a_sb 0)), (1, .int x1)] := hl
  refine lv_aload_n hx hb dJ4_append_bf812_0 rfl (lv_at hl 0 rfl) ?_
  refine lv_iload_n hx hb dJ4_append_bf812_1 rfl (lv_at hl 1 rfl) ?_
  refine gCr4 (gRunSUX (As := [.int x1]) (rest := []) ⟨hx, hb, hml, hown, hts⟩ (ctJ5_append_c97b9_g l g t a_sb _ b_ml b_count b_at b_cap b_bytes x1 hw) (va_cwSU 1 hts gJ4_append_bf812_J5_append_c97b9_s53 rfl rfl rfl (by decide +kernel) ⟨Nat.le_of_ble_eq_true rfl, Nat.le_of_ble_eq_true rfl⟩) hE hX hS (gFree hD hS hA [0, 1]) (gSub hP [0, 1]) (gDSub hD [0, 1] rfl) 0 1 rfl rfl rfl rfl rfl hl.1 rfl (lv_room (Nat.le_of_ble_eq_true rfl)) dJ4_append_bf812_2 ⟨Nat.le_of_ble_eq_true rfl, Nat.le_of_ble_eq_true rfl⟩) hP hD hS hA [0, 1] rfl (fun _ _ _ _ => rfl) rfl (fun ra1 b_count_v1 b_at_v1 b_cap_v1 b_bytes_v1 H locs hw hP hD hS => ?_)
  have hP : va_P g.1 vwCl (List.flatten [kSO g a_sb b_at_v1 b_ml b_count_v1, kBa g b_at_v1 b_cap_v1 b_bytes_v1]) H := hP
  have hD : va_D A (List.flatten [kSO g a_sb b_at_v1 b_ml b_count_v1, kBa g b_at_v1 b_cap_v1 b_bytes_v1]) := hD
  refine lv_pop hx hb dJ4_append_bf812_5 rfl ?_
  refine lv_aload_n hx hb dJ4_append_bf812_6 rfl (lv_at hl 0 rfl) ?_
  subst hQ
  refine W.widen (k := 1) (n := 200) (Nat.le_of_ble_eq_true rfl) (Nat.le_of_ble_eq_true rfl) ?_
  exact W.aret hx hb hr (Or.inl ⟨_, rfl⟩) (Or.inr ⟨_, rfl⟩) (gRn (w := (b_count_v1, b_at_v1, b_cap_v1, b_bytes_v1)) (ad := fun _ => a_sb 0) (wf := (fun w : Int32 × (Nat → Nat) × Nat × (Nat → Int32) => [kSO g a_sb w.2.1 b_ml w.1, kBa g w.2.1 w.2.2.1 w.2.2.2])) hA0 hsz hw hP hD hS) hS.2.2 dJ4_append_bf812_7
abbrev rmJ0_coder_7d493_w : Room := { frames := 1, cells := 0, slots := 0, locals := 100 }
set_option maxRecDepth 20000 in
theorem inJ0_coder_7d493_J0 : ∀ w ∈ wsJ00, w ∈ wsJ0_coder_7d493 := by decide +kernel
set_option maxHeartbeats 4000000 in
set_option maxRecDepth 100000 in
theorem ctJ0_coder_7d493_w (l : Launch) (g : GG) (t : GT) (a_so : Nat → Nat) (b_ats : Nat → Nat) (sz : Nat) {post : Int32 → Prop} (hw : wpJ0_coder_7d493_w post) :
    Met l yJ0_coder_7d493 wsJ0_coder_7d493 rmJ0_coder_7d493_w (gPX g t sz (List.flatten [kSo g a_so b_ats]) [.ref (a_so 0)]) (gQi0 post (gB g (List.flatten [kSo g a_so b_ats]) sz (List.flatten [kSo g a_so b_ats])) (va_A (List.flatten [kSo g a_so b_ats]) sz)) 0 0 (va_A (List.flatten [kSo g a_so b_ats]) sz) := by
  refine gOfX (cc := cJ0_coder_7d493) (maxL := 1) (ret := (some .byte)) (by decide) rfl (Nat.le_of_ble_eq_true rfl) ?_
  intro p e s m below meth c ls Q A hQ hx hb hr hml hts hown hlocks hE hA0 hsz hP hD hA hS hl hX
  have hl : lv_has ls 1 [(0, .ref (a_so 0))] := hl
  refine va_gets hx hb (hX.1.2.2.2.1) hS hown (gW hts 1 (.fieldLink RJ0 38 "java/lang/String" "COMPACT_STRINGS" "Z") rfl) (fun _ h9 => h9) dJ0_coder_7d493_0 ?_
  refine lv_if_eq (tgt := 13) hx hb dJ0_coder_7d493_3 (by decide) (fun c_3 => absurd c_3 (by decide)) (fun c_3 => ?_)
  refine lv_aload_n hx hb dJ0_coder_7d493_6 rfl (lv_at hl 0 rfl) ?_
  refine va_get (D := g.1) (ci := 0) (v := .int 0) (C := RJ0) (T := TJ0) (N := 4) hx hb hts inJ0_coder_7d493_J0 hown hE.1 hP 0 rfl rfl 1 (by decide) (gW hts 2 (.fieldLink RJ0 15 "java/lang/String" "coder" "B") rfl) (fun _ h9 => h9) rfl dJ0_coder_7d493_7 ?_
  refine lv_goto (tgt := 14) hx hb dJ0_coder_7d493_10 (by decide) ?_
  subst hQ
  exact W.zret (ty := .byte) hx hb hr (by decide) (gRi0 (wf := _) hA0 hsz hw hP hD hS) hS.2.2 dJ0_coder_7d493_14
abbrev rmJ0_length_8abf5_w : Room := { frames := 2, cells := 0, slots := 0, locals := 121 }
set_option maxRecDepth 20000 in
theorem inJ0_length_8abf5_J0 : ∀ w ∈ wsJ00, w ∈ wsJ0_length_8abf5 := by decide +kernel
set_option maxHeartbeats 4000000 in
set_option maxRecDepth 100000 in
theorem ctJ0_length_8abf5_w (l : Launch) (g : GG) (t : GT) (a_so : Nat → Nat) (sz : Nat) (b_ats : Nat → Nat) (b_caps : Nat) (b_bytess : Nat → Int32) {post : Int32 → Prop} (hw : wpJ0_length_8abf5_w b_caps post) :
    Met l yJ0_length_8abf5 wsJ0_length_8abf5 rmJ0_length_8abf5_w (gPX g t sz (List.flatten [kSo g a_so b_ats, kBa g b_ats b_caps b_bytess]) [.ref (a_so 0)]) (gQi0 post (gB g (List.flatten [kSo g a_so b_ats, kBa g b_ats b_caps b_bytess]) sz (List.flatten [kSo g a_so b_ats, kBa g b_ats b_caps b_bytess])) (va_A (List.flatten [kSo g a_so b_ats, kBa g b_ats b_caps b_bytess]) sz)) 0 0 (va_A (List.flatten [kSo g a_so b_ats, kBa g b_ats b_caps b_bytess]) sz) := by
  refine gOfX (cc := cJ0_length_8abf5) (maxL := 1) (ret := (some .int)) (by decide) rfl (Nat.le_of_ble_eq_true rfl) ?_
  intro p e s m below meth c ls Q A hQ hx hb hr hml hts hown hlocks hE hA0 hsz hP hD hA hS hl hX
  have hl : lv_has ls 1 [(0, .ref (a_so 0))] := hl
  refine lv_aload_n hx hb dJ0_length_8abf5_0 rfl (lv_at hl 0 rfl) ?_
  refine va_get (D := g.1) (ci := 0) (v := .ref (b_ats 0)) (C := RJ0) (T := TJ0) (N := 4) hx hb hts inJ0_length_8abf5_J0 hown hE.1 hP 0 rfl rfl 0 (by decide) (gW hts 1 (.fieldLink RJ0 9 "java/lang/String" "value" "[B") rfl) (fun _ h9 => h9) rfl dJ0_length_8abf5_1 ?_
  refine va_alen hx hb hE.1 hP 1 3 rfl rfl rfl dJ0_length_8abf5_4 ?_
  refine lv_aload_n hx hb dJ0_length_8abf5_5 rfl (lv_at hl 0 rfl) ?_
  refine gCi0 (gRunVX (As := []) (rest := [.int (nI b_caps)]) ⟨hx, hb, hml, hown, hts⟩ (ctJ0_coder_7d493_w l g t a_so b_ats _ hw) (cwV 0 hts gJ0_length_8abf5_J0_coder_7d493 rfl rfl rfl (by decide +kernel) ⟨Nat.le_of_ble_eq_true rfl, Nat.le_of_ble_eq_true rfl⟩) hE hX hS (gFree hD hS hA [0]) (gSub hP [0]) (gDSub hD [0] rfl) 0 0 rfl rfl rfl rfl rfl hl.1 rfl (lv_room (Nat.le_of_ble_eq_true rfl)) dJ0_length_8abf5_6 ⟨Nat.le_of_ble_eq_true rfl, Nat.le_of_ble_eq_true rfl⟩) hP hD hS hA [0] rfl rfl rfl (fun r1 H locs hw hP hD hS => ?_)
  have hP : va_P g.1 vwCl (List.flatten [kSo g a_so b_ats, kBa g b_ats b_caps b_bytess]) H := hP
  have hD : va_D A (List.flatten [kSo g a_so b_ats, kBa g b_ats b_caps b_bytess]) := hD
  refine lv_ishr hx hb dJ0_length_8abf5_9 ?_
  subst hQ
  exact W.iret hx hb hr (gRi0 (wf := _) hA0 hsz hw hP hD hS) hS.2.2 dJ0_length_8abf5_10
abbrev rmJ5_inflateIfNeededFor_a7421_w : Room := { frames := 2, cells := 0, slots := 0, locals := 121 }
set_option maxRecDepth 20000 in
theorem inJ5_inflateIfNeededFor_a7421_J0 : ∀ w ∈ wsJ00, w ∈ wsJ5_inflateIfNeededFor_a7421 := by decide +kernel
set_option maxHeartbeats 4000000 in
set_option maxRecDepth 100000 in
theorem ctJ5_inflateIfNeededFor_a7421_w (l : Launch) (g : GG) (t : GT) (a_sb : Nat → Nat) (b_at : Nat → Nat) (a_so : Nat → Nat) (b_ats : Nat → Nat) (sz : Nat) (b_ml : Int32) (b_count : Int32) {post : Prop} (hw : wpJ5_inflateIfNeededFor_a7421_w post) :
    Met l yJ5_inflateIfNeededFor_a7421 wsJ5_inflateIfNeededFor_a7421 rmJ5_inflateIfNeededFor_a7421_w (gPX g t sz (List.flatten [kSO g a_sb b_at b_ml b_count, kSo g a_so b_ats]) [.ref (a_sb 0), .ref (a_so 0)]) (gQv0 post (gB g (List.flatten [kSO g a_sb b_at b_ml b_count, kSo g a_so b_ats]) sz (List.flatten [kSO g a_sb b_at b_ml b_count, kSo g a_so b_ats])) (va_A (List.flatten [kSO g a_sb b_at b_ml b_count, kSo g a_so b_ats]) sz)) 0 0 (va_A (List.flatten [kSO g a_sb b_at b_ml b_count, kSo g a_so b_ats]) sz) := by
  refine gOfX (cc := cJ5_inflateIfNeededFor_a7421) (maxL := 2) (ret := none) (by decide) rfl (Nat.le_of_ble_eq_true rfl) ?_
  intro p e s m below meth c ls Q A hQ hx hb hr hml hts hown hlocks hE hA0 hsz hP hD hA hS hl hX
  have hl : lv_has ls 2 [(0, .ref (a_sb 0)), (1, .ref (a_so 0))] := hl
  refine va_gets hx hb (hX.1.2.2.2.1) hS hown (gW hts 1 (.fieldLink RJ5 18 "java/lang/String" "COMPACT_STRINGS" "Z") rfl) (fun _ h9 => h9) dJ5_inflateIfNeededFor_a7421_0 ?_
  refine lv_if_eq (tgt := 21) hx hb dJ5_inflateIfNeededFor_a7421_3 (by decide) (fun c_3 => absurd c_3 (by decide)) (fun c_3 => ?_)
  refine lv_aload_n hx hb dJ5_inflateIfNeededFor_a7421_6 rfl (lv_at hl 0 rfl) ?_
  refine va_get (D := g.1) (ci := 1) (v := .int 0) (C := RJ4) (T := TJ4) (N := 4) hx hb hts inJ5_inflateIfNeededFor_a7421_J4 hown hE.1 hP 0 rfl rfl 1 (by decide) (gW hts 2 (.fieldLink RJ5 22 "java/lang/AbstractStringBuilder" "coder" "B") rfl) (fun _ h9 => h9) rfl dJ5_inflateIfNeededFor_a7421_7 ?_
  refine lv_aload_n hx hb dJ5_inflateIfNeededFor_a7421_10 rfl (lv_at hl 1 rfl) ?_
  refine gCi0 (gRunVX (As := []) (rest := [.int 0]) ⟨hx, hb, hml, hown, hts⟩ (ctJ0_coder_7d493_w l g t a_so b_ats _ hw) (cwV 0 hts gJ5_inflateIfNeededFor_a7421_J0_coder_7d493 rfl rfl rfl (by decide +kernel) ⟨Nat.le_of_ble_eq_true rfl, Nat.le_of_ble_eq_true rfl⟩) hE hX hS (gFree hD hS hA [1]) (gSub hP [1]) (gDSub hD [1] rfl) 0 0 rfl rfl rfl rfl rfl hl.1 rfl (lv_room (Nat.le_of_ble_eq_true rfl)) dJ5_inflateIfNeededFor_a7421_11 ⟨Nat.le_of_ble_eq_true rfl, Nat.le_of_ble_eq_true rfl⟩) hP hD hS hA [1] rfl rfl rfl (fun r1 H locs hw hP hD hS => ?_)
  have hP : va_P g.1 vwCl (List.flatten [kSO g a_sb b_at b_ml b_count, kSo g a_so b_ats]) H := hP
  have hD : va_D A (List.flatten [kSO g a_sb b_at b_ml b_count, kSo g a_so b_ats]) := hD
  refine lv_icmp_eq (tgt := 21) hx hb dJ5_inflateIfNeededFor_a7421_14 (by decide) (fun c_14 => ?_) (fun c_14 => (hw.2 c_14).elim)
  have hw := hw.1 c_14
  subst hQ
  exact W.vret hx hb hr (gRv0 (wf := _) hA0 hsz hw hP hD hS) hS.2.2 dJ5_inflateIfNeededFor_a7421_21
abbrev rmJ0_getBytes_840e7_w : Room := { frames := 2, cells := 0, slots := 0, locals := 121 }
set_option maxRecDepth 20000 in
theorem inJ0_getBytes_840e7_J0 : ∀ w ∈ wsJ00, w ∈ wsJ0_getBytes_840e7 := by decide +kernel
set_option maxHeartbeats 4000000 in
set_option maxRecDepth 100000 in
theorem ctJ0_getBytes_840e7_w (l : Launch) (g : GG) (t : GT) (a_so : Nat → Nat) (sz : Nat) (b_ats : Nat → Nat) (b_caps : Nat) (b_bytess : Nat → Int32) (b_at : Nat → Nat) (b_cap : Nat) (b_bytes : Nat → Int32) (x2 : Int32) (x3 : Int32) {post : (Nat → Int32) → Prop} (hw : wpJ0_getBytes_840e7_w x2 x3 b_caps b_bytess b_cap b_bytes post) :
    Met l yJ0_getBytes_840e7 wsJ0_getBytes_840e7 rmJ0_getBytes_840e7_w (gPX g t sz (List.flatten [kSo g a_so b_ats, kBa g b_ats b_caps b_bytess, kBa g b_at b_cap b_bytes]) [.ref (a_so 0), .ref (b_at 0), .int x2, .int x3]) (gQv1 post (fun u1 => gB g (List.flatten [kSo g a_so b_ats, kBa g b_ats b_caps b_bytess, kBa g b_at b_cap b_bytes]) sz (List.flatten [kSo g a_so b_ats, kBa g b_ats b_caps b_bytess, kBa g b_at b_cap u1])) (va_A (List.flatten [kSo g a_so b_ats, kBa g b_ats b_caps b_bytess, kBa g b_at b_cap b_bytes]) sz)) 0 0 (va_A (List.flatten [kSo g a_so b_ats, kBa g b_ats b_caps b_bytess, kBa g b_at b_cap b_bytes]) sz) := by
  refine gOfX (cc := cJ0_getBytes_840e7) (maxL := 4) (ret := none) (by decide) rfl (Nat.le_of_ble_eq_true rfl) ?_
  intro p e s m below meth c ls Q A hQ hx hb hr hml hts hown hlocks hE hA0 hsz hP hD hA hS hl hX
  have hl : lv_has ls 4 [(0, .ref (a_so 0)), (1, .ref (b_at 0)), (2, .int x2), (3, .int x3)] := hl
  refine lv_aload_n hx hb dJ0_getBytes_840e7_0 rfl (lv_at hl 0 rfl) ?_
  refine gCi0 (gRunVX (As := []) (rest := []) ⟨hx, hb, hml, hown, hts⟩ (ctJ0_coder_7d493_w l g t a_so b_ats _ hw) (cwV 0 hts gJ0_getBytes_840e7_J0_coder_7d493 rfl rfl rfl (by decide +kernel) ⟨Nat.le_of_ble_eq_true rfl, Nat.le_of_ble_eq_true rfl⟩) hE hX hS (gFree hD hS hA [0]) (gSub hP [0]) (gDSub hD [0] rfl) 0 0 rfl rfl rfl rfl rfl hl.1 rfl (lv_room (Nat.le_of_ble_eq_true rfl)) dJ0_getBytes_840e7_1 ⟨Nat.le_of_ble_eq_true rfl, Nat.le_of_ble_eq_true rfl⟩) hP hD hS hA [0] rfl rfl rfl (fun r1 H locs hw hP hD hS => ?_)
  have hP : va_P g.1 vwCl (List.flatten [kSo g a_so b_ats, kBa g b_ats b_caps b_bytess, kBa g b_at b_cap b_bytes]) H := hP
  have hD : va_D A (List.flatten [kSo g a_so b_ats, kBa g b_ats b_caps b_bytess, kBa g b_at b_cap b_bytes]) := hD
  refine lv_iload_n hx hb dJ0_getBytes_840e7_4 rfl (lv_at hl 3 rfl) ?_
  refine lv_icmp_ne (tgt := 28) hx hb dJ0_getBytes_840e7_5 (by decide) (fun c_5 => (hw.1 c_5).elim) (fun c_5 => ?_)
  have hw := hw.2 c_5
  refine lv_aload_n hx hb dJ0_getBytes_840e7_8 rfl (lv_at hl 0 rfl) ?_
  refine va_get (D := g.1) (ci := 0) (v := .ref (b_ats 0)) (C := RJ0) (T := TJ0) (N := 4) hx hb hts inJ0_getBytes_840e7_J0 hown hE.1 hP 0 rfl rfl 0 (by decide) (gW hts 1 (.fieldLink RJ0 9 "java/lang/String" "value" "[B") rfl) (fun _ h9 => h9) rfl dJ0_getBytes_840e7_9 ?_
  refine lv_iconst (v := 0) hx hb dJ0_getBytes_840e7_12 (by decide) ?_
  refine lv_aload_n hx hb dJ0_getBytes_840e7_13 rfl (lv_at hl 1 rfl) ?_
  refine lv_iload_n hx hb dJ0_getBytes_840e7_14 rfl (lv_at hl 2 rfl) ?_
  refine lv_iload_n hx hb dJ0_getBytes_840e7_15 rfl (lv_at hl 3 rfl) ?_
  refine lv_ishl hx hb dJ0_getBytes_840e7_16 ?_
  refine lv_aload_n hx hb dJ0_getBytes_840e7_17 rfl (lv_at hl 0 rfl) ?_
  refine va_get (D := g.1) (ci := 0) (v := .ref (b_ats 0)) (C := RJ0) (T := TJ0) (N := 4) hx hb hts inJ0_getBytes_840e7_J0 hown hE.1 hP 0 rfl rfl 0 (by decide) (gW hts 1 (.fieldLink RJ0 9 "java/lang/String" "value" "[B") rfl) (fun _ h9 => h9) rfl dJ0_getBytes_840e7_18 ?_
  refine va_alen hx hb hE.1 hP 1 3 rfl rfl rfl dJ0_getBytes_840e7_21 ?_
  have h2 := hw.1
  have hw := hw.2
  have h3 := hw.1
  have hw := hw.2
  have h4 := hw.1
  have hw := hw.2
  have h5 := hw.1
  have hw := hw.2
  have h6 := hw.1
  have hw := hw.2
  refine va_copyi (f := b_bytess) (g := b_bytes) hx hb (hml.trans hl.1.symm) hown (gW hts 2 (.methodLink RJ0 212 arraycopyName) rfl) (gW hts 3 (.native arraycopyName) rfl) (gW hts 4 (.static arraycopyName) rfl) (gW hts 5 (.initialized "java/lang/System") rfl) hE.1 hP hD hS 1 2 3 3 rfl rfl rfl rfl rfl (by decide) h2 h3 h4 h5 h6 (Nat.le_of_ble_eq_true rfl) (by decide +kernel) dJ0_getBytes_840e7_22 (fun H locs hP hD hS => ?_)
  have hP : va_P g.1 vwCl (List.flatten [kSo g a_so b_ats, kBa g b_ats b_caps b_bytess, kBa g b_at b_cap (va_cpy b_bytess b_bytes (0 : Int32).toNatClampNeg (x2 <<< (x3 &&& 31)).toNatClampNeg (nI b_caps).toNatClampNeg)]) H := hP
  have hD : va_D A (List.flatten [kSo g a_so b_ats, kBa g b_ats b_caps b_bytess, kBa g b_at b_cap (va_cpy b_bytess b_bytes (0 : Int32).toNatClampNeg (x2 <<< (x3 &&& 31)).toNatClampNeg (nI b_caps).toNatClampNeg)]) := hD
  refine lv_goto (tgt := 43) hx hb dJ0_getBytes_840e7_25 (by decide) ?_
  subst hQ
  exact W.vret hx hb hr (gRv1 (c1 := (va_cpy b_bytess b_bytes (0 : Int32).toNatClampNeg (x2 <<< (x3 &&& 31)).toNatClampNeg (nI b_caps).toNatClampNeg)) (wf := _) hA0 hsz hw hP hD hS) hS.2.2 dJ0_getBytes_840e7_43
abbrev rmJ5_putStringAt_47b60_w : Room := { frames := 3, cells := 0, slots := 0, locals := 145 }
set_option maxRecDepth 20000 in
theorem inJ5_putStringAt_47b60_J0 : ∀ w ∈ wsJ00, w ∈ wsJ5_putStringAt_47b60 := by decide +kernel
set_option maxHeartbeats 4000000 in
set_option maxRecDepth 100000 in
theorem ctJ5_putStringAt_47b60_w (l : Launch) (g : GG) (t : GT) (a_sb : Nat → Nat) (a_so : Nat → Nat) (sz : Nat) (b_ml : Int32) (b_count : Int32) (b_at : Nat → Nat) (b_cap : Nat) (b_bytes : Nat → Int32) (b_ats : Nat → Nat) (b_caps : Nat) (b_bytess : Nat → Int32) (x1 : Int32) {post : (Nat → Int32) → Prop} (hw : wpJ5_putStringAt_47b60_w x1 b_cap b_bytes b_caps b_bytess post) :
    Met l yJ5_putStringAt_47b60 wsJ5_putStringAt_47b60 rmJ5_putStringAt_47b60_w (gPX g t sz (List.flatten [kSO g a_sb b_at b_ml b_count, kBa g b_at b_cap b_bytes, kSo g a_so b_ats, kBa g b_ats b_caps b_bytess]) [.ref (a_sb 0), .int x1, .ref (a_so 0)]) (gQv1 post (fun u1 => gB g (List.flatten [kSO g a_sb b_at b_ml b_count, kBa g b_at b_cap b_bytes, kSo g a_so b_ats, kBa g b_ats b_caps b_bytess]) sz (List.flatten [kSO g a_sb b_at b_ml b_count, kBa g b_at b_cap u1, kSo g a_so b_ats, kBa g b_ats b_caps b_bytess])) (va_A (List.flatten [kSO g a_sb b_at b_ml b_count, kBa g b_at b_cap b_bytes, kSo g a_so b_ats, kBa g b_ats b_caps b_bytess]) sz)) 0 0 (va_A (List.flatten [kSO g a_sb b_at b_ml b_count, kBa g b_at b_cap b_bytes, kSo g a_so b_ats, kBa g b_ats b_caps b_bytess]) sz) := by
  refine gOfX (cc := cJ5_putStringAt_47b60) (maxL := 3) (ret := none) (by decide) rfl (Nat.le_of_ble_eq_true rfl) ?_
  intro p e s m below meth c ls Q A hQ hx hb hr hml hts hown hlocks hE hA0 hsz hP hD hA hS hl hX
  have hl : lv_has ls 3 [(0, .ref (a_sb 0)), (1, .int x1), (2, .ref (a_so 0))] := hl
  refine lv_aload_n hx hb dJ5_putStringAt_47b60_0 rfl (lv_at hl 0 rfl) ?_
  refine lv_aload_n hx hb dJ5_putStringAt_47b60_1 rfl (lv_at hl 2 rfl) ?_
  refine gCv0 (gRunUX (As := [.ref (a_so 0)]) (rest := []) ⟨hx, hb, hml, hown, hts⟩ (ctJ5_inflateIfNeededFor_a7421_w l g t a_sb b_at a_so b_ats _ b_ml b_count hw) (va_cwU 1 hts gJ5_putStringAt_47b60_J5_inflateIfNeededFor_a7421_u397J4 rfl rfl rfl rfl (by decide +kernel) ⟨Nat.le_of_ble_eq_true rfl, Nat.le_of_ble_eq_true rfl⟩) hE hX hS (gFree hD hS hA [0, 2]) (gSub hP [0, 2]) (gDSub hD [0, 2] rfl) 0 1 rfl rfl rfl rfl rfl hl.1 rfl (lv_room (Nat.le_of_ble_eq_true rfl)) dJ5_putStringAt_47b60_2 ⟨Nat.le_of_ble_eq_true rfl, Nat.le_of_ble_eq_true rfl⟩) hP hD hS hA [0, 2] rfl rfl rfl (fun H locs hw hP hD hS => ?_)
  have hP : va_P g.1 vwCl (List.flatten [kSO g a_sb b_at b_ml b_count, kBa g b_at b_cap b_bytes, kSo g a_so b_ats, kBa g b_ats b_caps b_bytess]) H := hP
  have hD : va_D A (List.flatten [kSO g a_sb b_at b_ml b_count, kBa g b_at b_cap b_bytes, kSo g a_so b_ats, kBa g b_ats b_caps b_bytess]) := hD
  refine lv_aload_n hx hb dJ5_putStringAt_47b60_5 rfl (lv_at hl 2 rfl) ?_
  refine lv_aload_n hx hb dJ5_putStringAt_47b60_6 rfl (lv_at hl 0 rfl) ?_
  refine va_get (D := g.1) (ci := 1) (v := .ref (b_at 0)) (C := RJ4) (T := TJ4) (N := 4) hx hb hts inJ5_putStringAt_47b60_J4 hown hE.1 hP 0 rfl rfl 0 (by decide) (gW hts 1 (.fieldLink RJ5 15 "java/lang/AbstractStringBuilder" "value" "[B") rfl) (fun _ h9 => h9) rfl dJ5_putStringAt_47b60_7 ?_
  refine lv_iload_n hx hb dJ5_putStringAt_47b60_10 rfl (lv_at hl 1 rfl) ?_
  refine lv_aload_n hx hb dJ5_putStringAt_47b60_11 rfl (lv_at hl 0 rfl) ?_
  refine va_get (D := g.1) (ci := 1) (v := .int 0) (C := RJ4) (T := TJ4) (N := 4) hx hb hts inJ5_putStringAt_47b60_J4 hown hE.1 hP 0 rfl rfl 1 (by decide) (gW hts 2 (.fieldLink RJ5 22 "java/lang/AbstractStringBuilder" "coder" "B") rfl) (fun _ h9 => h9) rfl dJ5_putStringAt_47b60_12 ?_
  refine gCv1 (gRunVX (As := [.ref (b_at 0), .int x1, .int 0]) (rest := []) ⟨hx, hb, hml, hown, hts⟩ (ctJ0_getBytes_840e7_w l g t a_so _ b_ats b_caps b_bytess b_at b_cap b_bytes x1 0 hw) (cwV 3 hts gJ5_putStringAt_47b60_J0_getBytes_840e7 rfl rfl rfl (by decide +kernel) ⟨Nat.le_of_ble_eq_true rfl, Nat.le_of_ble_eq_true rfl⟩) hE hX hS (gFree hD hS hA [2, 3, 1]) (gSub hP [2, 3, 1]) (gDSub hD [2, 3, 1] rfl) 0 0 rfl rfl rfl rfl rfl hl.1 rfl (lv_room (Nat.le_of_ble_eq_true rfl)) dJ5_putStringAt_47b60_15 ⟨Nat.le_of_ble_eq_true rfl, Nat.le_of_ble_eq_true rfl⟩) hP hD hS hA [2, 3, 1] rfl (fun _ => rfl) rfl (fun b_bytes_v2 H locs hw hP hD hS => ?_)
  have hP : va_P g.1 vwCl (List.flatten [kSO g a_sb b_at b_ml b_count, kBa g b_at b_cap b_bytes_v2, kSo g a_so b_ats, kBa g b_ats b_caps b_bytess]) H := hP
  have hD : va_D A (List.flatten [kSO g a_sb b_at b_ml b_count, kBa g b_at b_cap b_bytes_v2, kSo g a_so b_ats, kBa g b_ats b_caps b_bytess]) := hD
  subst hQ
  exact W.vret hx hb hr (gRv1 (c1 := b_bytes_v2) (wf := _) hA0 hsz hw hP hD hS) hS.2.2 dJ5_putStringAt_47b60_18
abbrev rmJ5_append_cf1ce_gw : Room := { frames := 5, cells := 1, slots := 200, locals := 423 }
set_option maxRecDepth 20000 in
theorem inJ5_append_cf1ce_J0 : ∀ w ∈ wsJ00, w ∈ wsJ5_append_cf1ce := by decide +kernel
set_option maxHeartbeats 4000000 in
set_option maxRecDepth 100000 in
theorem ctJ5_append_cf1ce_gw (l : Launch) (g : GG) (t : GT) (a_sb : Nat → Nat) (a_so : Nat → Nat) (sz : Nat) (b_ml : Int32) (b_count : Int32) (b_at : Nat → Nat) (b_cap : Nat) (b_bytes : Nat → Int32) (b_ats : Nat → Nat) (b_caps : Nat) (b_bytess : Nat → Int32) {post : Int32 → (Nat → Nat) → Nat → (Nat → Int32) → Prop} (hw : wpJ5_append_cf1ce_gw b_count b_at b_cap b_bytes b_caps b_bytess post) :
    Met l yJ5_append_cf1ce wsJ5_append_cf1ce rmJ5_append_cf1ce_gw (gPX g t sz (List.flatten [kSO g a_sb b_at b_ml b_count, kBa g b_at b_cap b_bytes, kSo g a_so b_ats, kBa g b_ats b_caps b_bytess]) [.ref (a_sb 0), .ref (a_so 0)]) (gQr4 post (fun u1 u2 u3 u4 => gB g (List.flatten [kSO g a_sb b_at b_ml b_count, kBa g b_at b_cap b_bytes, kSo g a_so b_ats, kBa g b_ats b_caps b_bytess]) sz (List.flatten [kSO g a_sb u2 b_ml u1, kBa g u2 u3 u4, kSo g a_so b_ats, kBa g b_ats b_caps b_bytess])) (va_A (List.flatten [kSO g a_sb b_at b_ml b_count, kBa g b_at b_cap b_bytes, kSo g a_so b_ats, kBa g b_ats b_caps b_bytess]) sz)) 1 200 (va_A (List.flatten [kSO g a_sb b_at b_ml b_count, kBa g b_at b_cap b_bytes, kSo g a_so b_ats, kBa g b_ats b_caps b_bytess]) sz) := by
  refine gOfX (cc := cJ5_append_cf1ce) (maxL := 3) (ret := (some (.object "java/lang/AbstractStringBuilder"))) (by decide) rfl (Nat.le_of_ble_eq_true rfl) ?_
  intro p e s m below meth c ls Q A hQ hx hb hr hml hts hown hlocks hE hA0 hsz hP hD hA hS hl hX
  have hl : lv_has ls 3 [(0, .ref (a_sb 0)), (1, .ref (a_so 0))] := hl
  refine lv_aload_n hx hb dJ5_append_cf1ce_0 rfl (lv_at hl 1 rfl) ?_
  refine lv_ifnonnull (tgt := 9) hx hb dJ5_append_cf1ce_1 (by decide) ?_
  refine lv_aload_n hx hb dJ5_append_cf1ce_9 rfl (lv_at hl 1 rfl) ?_
  refine gCi0 (gRunVX (As := []) (rest := []) ⟨hx, hb, hml, hown, hts⟩ (ctJ0_length_8abf5_w l g t a_so _ b_ats b_caps b_bytess hw) (cwV 0 hts gJ5_append_cf1ce_J0_length_8abf5 rfl rfl rfl (by decide +kernel) ⟨Nat.le_of_ble_eq_true rfl, Nat.le_of_ble_eq_true rfl⟩) hE hX hS (gFree hD hS hA [2, 3]) (gSub hP [2, 3]) (gDSub hD [2, 3] rfl) 0 0 rfl rfl rfl rfl rfl hl.1 rfl (lv_room (Nat.le_of_ble_eq_true rfl)) dJ5_append_cf1ce_10 ⟨Nat.le_of_ble_eq_true rfl, Nat.le_of_ble_eq_true rfl⟩) hP hD hS hA [2, 3] rfl rfl rfl (fun r1 H locs hw hP hD hS => ?_)
  have hP : va_P g.1 vwCl (List.flatten [kSO g a_sb b_at b_ml b_count, kBa g b_at b_cap b_bytes, kSo g a_so b_ats, kBa g b_ats b_caps b_bytess]) H := hP
  have hD : va_D A (List.flatten [kSO g a_sb b_at b_ml b_count, kBa g b_at b_cap b_bytes, kSo g a_so b_ats, kBa g b_ats b_caps b_bytess]) := hD
  refine lv_istore_n (lv' := [(2, .int r1), (0, .ref (a_sb 0)), (1, .ref (a_so 0))]) hx hb dJ5_append_cf1ce_13 rfl hl (by decide) rfl (fun ls hl => ?_)
  refine lv_aload_n hx hb dJ5_append_cf1ce_14 rfl (lv_at hl 1 rfl) ?_
  refine lv_aload_n hx hb dJ5_append_cf1ce_15 rfl (lv_at hl 1 rfl) ?_
  refine va_get (D := g.1) (ci := 1) (v := .int b_count) (C := RJ4) (T := TJ4) (N := 4) hx hb hts inJ5_append_cf1ce_J4 hown hE.1 hP 0 rfl rfl 3 (by decide) (gW hts 1 (.fieldLink RJ5 79 "java/lang/AbstractStringBuilder" "count" "I") rfl) (fun _ h9 => h9) rfl dJ5_append_cf1ce_16 ?_
  refine lv_iload_n hx hb dJ5_append_cf1ce_19 rfl (lv_at hl 0 rfl) ?_
  refine lv_iadd hx hb dJ5_append_cf1ce_20 ?_
  refine gCv3 (gRunUX (As := [.int (b_count + r1)]) (rest := []) ⟨hx, hb, hml, hown, hts⟩ (ctJ5_ensureCapacityInternal_d00df_g l g t a_sb _ b_ml b_count b_at b_cap b_bytes (b_count + r1) hw) (va_cwU 1 hts gJ5_append_cf1ce_J5_ensureCapacityInternal_d00df_u100J4 rfl rfl rfl rfl (by decide +kernel) ⟨Nat.le_of_ble_eq_true rfl, Nat.le_of_ble_eq_true rfl⟩) hE hX hS (gFree hD hS hA [0, 1]) (gSub hP [0, 1]) (gDSub hD [0, 1] rfl) 0 1 rfl rfl rfl rfl rfl hl.1 rfl (lv_room (Nat.le_of_ble_eq_true rfl)) dJ5_append_cf1ce_21 ⟨Nat.le_of_ble_eq_true rfl, Nat.le_of_ble_eq_true rfl⟩) hP hD hS hA [0, 1] rfl (fun _ _ _ => rfl) rfl (fun b_at_v2 b_cap_v2 b_bytes_v2 H locs hw hP hD hS => ?_)
  have hP : va_P g.1 vwCl (List.flatten [kSO g a_sb b_at_v2 b_ml b_count, kBa g b_at_v2 b_cap_v2 b_bytes_v2, kSo g a_so b_ats, kBa g b_ats b_caps b_bytess]) H := hP
  have hD : va_D A (List.flatten [kSO g a_sb b_at_v2 b_ml b_count, kBa g b_at_v2 b_cap_v2 b_bytes_v2, kSo g a_so b_ats, kBa g b_ats b_caps b_bytess]) := hD
  refine lv_aload_n hx hb dJ5_append_cf1ce_24 rfl (lv_at hl 1 rfl) ?_
  refine lv_aload_n hx hb dJ5_append_cf1ce_25 rfl (lv_at hl 1 rfl) ?_
  refine va_get (D := g.1) (ci := 1) (v := .int b_count) (C := RJ4) (T := TJ4) (N := 4) hx hb hts inJ5_append_cf1ce_J4 hown hE.1 hP 0 rfl rfl 3 (by decide) (gW hts 1 (.fieldLink RJ5 79 "java/lang/AbstractStringBuilder" "count" "I") rfl) (fun _ h9 => h9) rfl dJ5_append_cf1ce_26 ?_
  refine lv_aload_n hx hb dJ5_append_cf1ce_29 rfl (lv_at hl 2 rfl) ?_
  refine gCv1 (gRunUX (As := [.int b_count, .ref (a_so 0)]) (rest := []) ⟨hx, hb, hml, hown, hts⟩ (ctJ5_putStringAt_47b60_w l g t a_sb a_so _ b_ml b_count b_at_v2 b_cap_v2 b_bytes_v2 b_ats b_caps b_bytess b_count hw) (va_cwU 2 hts gJ5_append_cf1ce_J5_putStringAt_47b60_u208J4 rfl rfl rfl rfl (by decide +kernel) ⟨Nat.le_of_ble_eq_true rfl, Nat.le_of_ble_eq_true rfl⟩) hE hX hS (gFree hD hS hA [0, 1, 2, 3]) (gSub hP [0, 1, 2, 3]) (gDSub hD [0, 1, 2, 3] rfl) 0 1 rfl rfl rfl rfl rfl hl.1 rfl (lv_room (Nat.le_of_ble_eq_true rfl)) dJ5_append_cf1ce_30 ⟨Nat.le_of_ble_eq_true rfl, Nat.le_of_ble_eq_true rfl⟩) hP hD hS hA [0, 1, 2, 3] rfl (fun _ => rfl) rfl (fun b_bytes_v3 H locs hw hP hD hS => ?_)
  have hP : va_P g.1 vwCl (List.flatten [kSO g a_sb b_at_v2 b_ml b_count, kBa g b_at_v2 b_cap_v2 b_bytes_v3, kSo g a_so b_ats, kBa g b_ats b_caps b_bytess]) H := hP
  have hD : va_D A (List.flatten [kSO g a_sb b_at_v2 b_ml b_count, kBa g b_at_v2 b_cap_v2 b_bytes_v3, kSo g a_so b_ats, kBa g b_ats b_caps b_bytess]) := hD
  refine lv_aload_n hx hb dJ5_append_cf1ce_33 rfl (lv_at hl 1 rfl) ?_
  refine lv_dup hx hb dJ5_append_cf1ce_34 rfl ?_
  refine va_get (D := g.1) (ci := 1) (v := .int b_count) (C := RJ4) (T := TJ4) (N := 4) hx hb hts inJ5_append_cf1ce_J4 hown hE.1 hP 0 rfl rfl 3 (by decide) (gW hts 1 (.fieldLink RJ5 79 "java/lang/AbstractStringBuilder" "count" "I") rfl) (fun _ h9 => h9) rfl dJ5_append_cf1ce_35 ?_
  refine lv_iload_n hx hb dJ5_append_cf1ce_38 rfl (lv_at hl 0 rfl) ?_
  refine lv_iadd hx hb dJ5_append_cf1ce_39 ?_
  refine va_put (D := g.1) (ci := 1) (v := .int (b_count + r1)) (ty := .int) (C := RJ4) (T := TJ4) (N := 4) hx hb hts inJ5_append_cf1ce_J4 tyJ4 tyJ4_ok nmJ4 hown hE.1 hP hD hS 0 rfl rfl 3 (by decide) (gW hts 1 (.fieldLink RJ5 79 "java/lang/AbstractStringBuilder" "count" "I") rfl) (fun _ h9 => h9) rfl (by decide +kernel) rfl rfl (Nat.le_of_ble_eq_true rfl) dJ5_append_cf1ce_40 (fun H locs hP hD hS => ?_)
  have hP : va_P g.1 vwCl (List.flatten [kSO g a_sb b_at_v2 b_ml (b_count + r1), kBa g b_at_v2 b_cap_v2 b_bytes_v3, kSo g a_so b_ats, kBa g b_ats b_caps b_bytess]) H := hP
  have hD : va_D A (List.flatten [kSO g a_sb b_at_v2 b_ml (b_count + r1), kBa g b_at_v2 b_cap_v2 b_bytes_v3, kSo g a_so b_ats, kBa g b_ats b_caps b_bytess]) := hD
  refine lv_aload_n hx hb dJ5_append_cf1ce_43 rfl (lv_at hl 1 rfl) ?_
  subst hQ
  refine W.widen (k := 1) (n := 200) (Nat.le_of_ble_eq_true rfl) (Nat.le_of_ble_eq_true rfl) ?_
  exact W.aret hx hb hr (Or.inl ⟨_, rfl⟩) (Or.inr ⟨_, rfl⟩) (gRr4 (c1 := (b_count + r1)) (c2 := b_at_v2) (c3 := b_cap_v2) (c4 := b_bytes_v3) (wf := _) hA0 hsz hw hP hD hS) hS.2.2 dJ5_append_cf1ce_44
abbrev rmJ4_append_15ec4_gw : Room := { frames := 6, cells := 1, slots := 200, locals := 446 }
set_option maxRecDepth 20000 in
theorem inJ4_append_15ec4_J0 : ∀ w ∈ wsJ00, w ∈ wsJ4_append_15ec4 := by decide +kernel
set_option maxHeartbeats 4000000 in
set_option maxRecDepth 100000 in
theorem ctJ4_append_15ec4_gw (l : Launch) (g : GG) (t : GT) (a_sb : Nat → Nat) (a_so : Nat → Nat) (sz : Nat) (b_ml : Int32) (b_count : Int32) (b_at : Nat → Nat) (b_cap : Nat) (b_bytes : Nat → Int32) (b_ats : Nat → Nat) (b_caps : Nat) (b_bytess : Nat → Int32) {post : Int32 → (Nat → Nat) → Nat → (Nat → Int32) → Prop} (hw : wpJ4_append_15ec4_gw b_count b_at b_cap b_bytes b_caps b_bytess post) :
    Met l yJ4_append_15ec4 wsJ4_append_15ec4 rmJ4_append_15ec4_gw (gPX g t sz (List.flatten [kSO g a_sb b_at b_ml b_count, kBa g b_at b_cap b_bytes, kSo g a_so b_ats, kBa g b_ats b_caps b_bytess]) [.ref (a_sb 0), .ref (a_so 0)]) (va_Qr (fun w : Int32 × (Nat → Nat) × Nat × (Nat → Int32) => post w.1 w.2.1 w.2.2.1 w.2.2.2) (fun w a tt => a = a_sb 0 ∧ gB g (List.flatten [kSO g a_sb b_at b_ml b_count, kBa g b_at b_cap b_bytes, kSo g a_so b_ats, kBa g b_ats b_caps b_bytess]) sz (List.flatten [kSO g a_sb w.2.1 b_ml w.1, kBa g w.2.1 w.2.2.1 w.2.2.2, kSo g a_so b_ats, kBa g b_ats b_caps b_bytess]) tt) (va_A (List.flatten [kSO g a_sb b_at b_ml b_count, kBa g b_at b_cap b_bytes, kSo g a_so b_ats, kBa g b_ats b_caps b_bytess]) sz)) 1 200 (va_A (List.flatten [kSO g a_sb b_at b_ml b_count, kBa g b_at b_cap b_bytes, kSo g a_so b_ats, kBa g b_ats b_caps b_bytess]) sz) := by
  refine gOfX (cc := cJ4_append_15ec4) (maxL := 2) (ret := (some (.object "java/lang/StringBuilder"))) (by decide) rfl (Nat.le_of_ble_eq_true rfl) ?_
  intro p e s m below meth c ls Q A hQ hx hb hr hml hts hown hlocks hE hA0 hsz hP hD hA hS hl hX
  have hl : lv_has ls 2 [(0, .ref (a_sb 0)), (1, .ref (a_so 0))] := hl
  refine lv_aload_n hx hb dJ4_append_15ec4_0 rfl (lv_at hl 0 rfl) ?_
  refine lv_aload_n hx hb dJ4_append_15ec4_1 rfl (lv_at hl 1 rfl) ?_
  refine gCr4 (gRunSUX (As := [.ref (a_so 0)]) (rest := []) ⟨hx, hb, hml, hown, hts⟩ (ctJ5_append_cf1ce_gw l g t a_sb a_so _ b_ml b_count b_at b_cap b_bytes b_ats b_caps b_bytess hw) (va_cwSU 1 hts gJ4_append_15ec4_J5_append_cf1ce_s29 rfl rfl rfl (by decide +kernel) ⟨Nat.le_of_ble_eq_true rfl, Nat.le_of_ble_eq_true rfl⟩) hE hX hS (gFree hD hS hA [0, 1, 2, 3]) (gSub hP [0, 1, 2, 3]) (gDSub hD [0, 1, 2, 3] rfl) 0 1 rfl rfl rfl rfl rfl hl.1 rfl (lv_room (Nat.le_of_ble_eq_true rfl)) dJ4_append_15ec4_2 ⟨Nat.le_of_ble_eq_true rfl, Nat.le_of_ble_eq_true rfl⟩) hP hD hS hA [0, 1, 2, 3] rfl (fun _ _ _ _ => rfl) rfl (fun ra1 b_count_v1 b_at_v1 b_cap_v1 b_bytes_v1 H locs hw hP hD hS => ?_)
  have hP : va_P g.1 vwCl (List.flatten [kSO g a_sb b_at_v1 b_ml b_count_v1, kBa g b_at_v1 b_cap_v1 b_bytes_v1, kSo g a_so b_ats, kBa g b_ats b_caps b_bytess]) H := hP
  have hD : va_D A (List.flatten [kSO g a_sb b_at_v1 b_ml b_count_v1, kBa g b_at_v1 b_cap_v1 b_bytes_v1, kSo g a_so b_ats, kBa g b_ats b_caps b_bytess]) := hD
  refine lv_pop hx hb dJ4_append_15ec4_5 rfl ?_
  refine lv_aload_n hx hb dJ4_append_15ec4_6 rfl (lv_at hl 0 rfl) ?_
  subst hQ
  refine W.widen (k := 1) (n := 200) (Nat.le_of_ble_eq_true rfl) (Nat.le_of_ble_eq_true rfl) ?_
  exact W.aret hx hb hr (Or.inl ⟨_, rfl⟩) (Or.inr ⟨_, rfl⟩) (gRn (w := (b_count_v1, b_at_v1, b_cap_v1, b_bytes_v1)) (ad := fun _ => a_sb 0) (wf := (fun w : Int32 × (Nat → Nat) × Nat × (Nat → Int32) => [kSO g a_sb w.2.1 b_ml w.1, kBa g w.2.1 w.2.2.1 w.2.2.2, kSo g a_so b_ats, kBa g b_ats b_caps b_bytess])) hA0 hsz hw hP hD hS) hS.2.2 dJ4_append_15ec4_7
abbrev rmJ0_isLatin1_aae02_w : Room := { frames := 1, cells := 0, slots := 0, locals := 100 }
set_option maxRecDepth 20000 in
theorem inJ0_isLatin1_aae02_J0 : ∀ w ∈ wsJ00, w ∈ wsJ0_isLatin1_aae02 := by decide +kernel
set_option maxHeartbeats 4000000 in
set_option maxRecDepth 100000 in
theorem ctJ0_isLatin1_aae02_w (l : Launch) (g : GG) (t : GT) (a_so : Nat → Nat) (b_ats : Nat → Nat) (sz : Nat) {post : Int32 → Prop} (hw : wpJ0_isLatin1_aae02_w post) :
    Met l yJ0_isLatin1_aae02 wsJ0_isLatin1_aae02 rmJ0_isLatin1_aae02_w (gPX g t sz (List.flatten [kSo g a_so b_ats]) [.ref (a_so 0)]) (gQi0 post (gB g (List.flatten [kSo g a_so b_ats]) sz (List.flatten [kSo g a_so b_ats])) (va_A (List.flatten [kSo g a_so b_ats]) sz)) 0 0 (va_A (List.flatten [kSo g a_so b_ats]) sz) := by
  refine gOfX (cc := cJ0_isLatin1_aae02) (maxL := 1) (ret := (some .boolean)) (by decide) rfl (Nat.le_of_ble_eq_true rfl) ?_
  intro p e s m below meth c ls Q A hQ hx hb hr hml hts hown hlocks hE hA0 hsz hP hD hA hS hl hX
  have hl : lv_has ls 1 [(0, .ref (a_so 0))] := hl
  refine va_gets hx hb (hX.1.2.2.2.1) hS hown (gW hts 1 (.fieldLink RJ0 38 "java/lang/String" "COMPACT_STRINGS" "Z") rfl) (fun _ h9 => h9) dJ0_isLatin1_aae02_0 ?_
  refine lv_if_eq (tgt := 17) hx hb dJ0_isLatin1_aae02_3 (by decide) (fun c_3 => absurd c_3 (by decide)) (fun c_3 => ?_)
  refine lv_aload_n hx hb dJ0_isLatin1_aae02_6 rfl (lv_at hl 0 rfl) ?_
  refine va_get (D := g.1) (ci := 0) (v := .int 0) (C := RJ0) (T := TJ0) (N := 4) hx hb hts inJ0_isLatin1_aae02_J0 hown hE.1 hP 0 rfl rfl 1 (by decide) (gW hts 2 (.fieldLink RJ0 15 "java/lang/String" "coder" "B") rfl) (fun _ h9 => h9) rfl dJ0_isLatin1_aae02_7 ?_
  refine lv_if_ne (tgt := 17) hx hb dJ0_isLatin1_aae02_10 (by decide) (fun c_10 => absurd c_10 (by decide)) (fun c_10 => ?_)
  refine lv_iconst (v := 1) hx hb dJ0_isLatin1_aae02_13 (by decide) ?_
  refine lv_goto (tgt := 18) hx hb dJ0_isLatin1_aae02_14 (by decide) ?_
  subst hQ
  exact W.zret (ty := .boolean) hx hb hr (by decide) (gRi0 (wf := _) hA0 hsz hw hP hD hS) hS.2.2 dJ0_isLatin1_aae02_18
abbrev rmJ1_charAt_3b067_w : Room := { frames := 3, cells := 0, slots := 0, locals := 145 }
set_option maxHeartbeats 4000000 in
set_option maxRecDepth 100000 in
theorem ctJ1_charAt_3b067_w (l : Launch) (g : GG) (t : GT) (sz : Nat) (b_ats : Nat → Nat) (b_caps : Nat) (b_bytess : Nat → Int32) (x1 : Int32) {post : Int32 → Prop} (hw : wpJ1_charAt_3b067_w x1 b_caps b_bytess post) :
    Met l yJ1_charAt_3b067 wsJ1_charAt_3b067 rmJ1_charAt_3b067_w (gPX g t sz (List.flatten [kBa g b_ats b_caps b_bytess]) [.ref (b_ats 0), .int x1]) (gQi0 post (gB g (List.flatten [kBa g b_ats b_caps b_bytess]) sz (List.flatten [kBa g b_ats b_caps b_bytess])) (va_A (List.flatten [kBa g b_ats b_caps b_bytess]) sz)) 0 0 (va_A (List.flatten [kBa g b_ats b_caps b_bytess]) sz) := by
  refine gOfX (cc := cJ1_charAt_3b067) (maxL := 2) (ret := (some .char)) (by decide) rfl (Nat.le_of_ble_eq_true rfl) ?_
  intro p e s m below meth c ls Q A hQ hx hb hr hml hts hown hlocks hE hA0 hsz hP hD hA hS hl hX
  have hl : lv_has ls 2 [(0, .ref (b_ats 0)), (1, .int x1)] := hl
  refine lv_iload_n hx hb dJ1_charAt_3b067_0 rfl (lv_at hl 1 rfl) ?_
  refine lv_aload_n hx hb dJ1_charAt_3b067_1 rfl (lv_at hl 0 rfl) ?_
  refine va_alen hx hb hE.1 hP 0 3 rfl rfl rfl dJ1_charAt_3b067_2 ?_
  refine gCv0 (gRunSX (As := [.int x1, .int (nI b_caps)]) (rest := []) ⟨hx, hb, hml, hown, hts⟩ (ctJ0_checkIndex_df160 l g t _ x1 (nI b_caps) hw) (va_cwS 2 hts gJ1_charAt_3b067_J0_checkIndex_df160 rfl rfl rfl (by decide +kernel) ⟨Nat.le_of_ble_eq_true rfl, Nat.le_of_ble_eq_true rfl⟩) hE hX hS (gFree hD hS hA []) (gSub hP []) (gDSub hD [] rfl) rfl rfl hl.1 rfl (lv_room (Nat.le_of_ble_eq_true rfl)) dJ1_charAt_3b067_3 ⟨Nat.le_of_ble_eq_true rfl, Nat.le_of_ble_eq_true rfl⟩) hP hD hS hA [] rfl rfl rfl (fun H locs hw hP hD hS => ?_)
  have hP : va_P g.1 vwCl (List.flatten [kBa g b_ats b_caps b_bytess]) H := hP
  have hD : va_D A (List.flatten [kBa g b_ats b_caps b_bytess]) := hD
  refine lv_aload_n hx hb dJ1_charAt_3b067_6 rfl (lv_at hl 0 rfl) ?_
  refine lv_iload_n hx hb dJ1_charAt_3b067_7 rfl (lv_at hl 1 rfl) ?_
  have h2 := hw.1
  have hw := hw.2
  refine va_bald hx hb hE.1 hP 0 3 rfl rfl h2 dJ1_charAt_3b067_8 ?_
  refine lv_sipush (v := 255) hx hb dJ1_charAt_3b067_9 (by decide) ?_
  refine lv_iand hx hb dJ1_charAt_3b067_12 ?_
  refine lv_i2c (v := (((b_bytess x1.toNatClampNeg) &&& 255).toUInt32 % 65536).toInt32) hx hb dJ1_charAt_3b067_13 rfl ?_
  have h3 := hw.1
  have hw := hw.2
  subst hQ
  exact W.zret (ty := .char) hx hb hr h3 (gRi0 (wf := _) hA0 hsz hw hP hD hS) hS.2.2 dJ1_charAt_3b067_14
abbrev rmJ0_charAt_5068e_w : Room := { frames := 4, cells := 0, slots := 0, locals := 167 }
set_option maxRecDepth 20000 in
theorem inJ0_charAt_5068e_J0 : ∀ w ∈ wsJ00, w ∈ wsJ0_charAt_5068e := by decide +kernel
set_option maxHeartbeats 4000000 in
set_option maxRecDepth 100000 in
theorem ctJ0_charAt_5068e_w (l : Launch) (g : GG) (t : GT) (a_so : Nat → Nat) (sz : Nat) (b_ats : Nat → Nat) (b_caps : Nat) (b_bytess : Nat → Int32) (x1 : Int32) {post : Int32 → Prop} (hw : wpJ0_charAt_5068e_w x1 b_caps b_bytess post) :
    Met l yJ0_charAt_5068e wsJ0_charAt_5068e rmJ0_charAt_5068e_w (gPX g t sz (List.flatten [kSo g a_so b_ats, kBa g b_ats b_caps b_bytess]) [.ref (a_so 0), .int x1]) (gQi0 post (gB g (List.flatten [kSo g a_so b_ats, kBa g b_ats b_caps b_bytess]) sz (List.flatten [kSo g a_so b_ats, kBa g b_ats b_caps b_bytess])) (va_A (List.flatten [kSo g a_so b_ats, kBa g b_ats b_caps b_bytess]) sz)) 0 0 (va_A (List.flatten [kSo g a_so b_ats, kBa g b_ats b_caps b_bytess]) sz) := by
  refine gOfX (cc := cJ0_charAt_5068e) (maxL := 2) (ret := (some .char)) (by decide) rfl (Nat.le_of_ble_eq_true rfl) ?_
  intro p e s m below meth c ls Q A hQ hx hb hr hml hts hown hlocks hE hA0 hsz hP hD hA hS hl hX
  have hl : lv_has ls 2 [(0, .ref (a_so 0)), (1, .int x1)] := hl
  refine lv_aload_n hx hb dJ0_charAt_5068e_0 rfl (lv_at hl 0 rfl) ?_
  refine gCi0 (gRunVX (As := []) (rest := []) ⟨hx, hb, hml, hown, hts⟩ (ctJ0_isLatin1_aae02_w l g t a_so b_ats _ hw) (cwV 0 hts gJ0_charAt_5068e_J0_isLatin1_aae02 rfl rfl rfl (by decide +kernel) ⟨Nat.le_of_ble_eq_true rfl, Nat.le_of_ble_eq_true rfl⟩) hE hX hS (gFree hD hS hA [0]) (gSub hP [0]) (gDSub hD [0] rfl) 0 0 rfl rfl rfl rfl rfl hl.1 rfl (lv_room (Nat.le_of_ble_eq_true rfl)) dJ0_charAt_5068e_1 ⟨Nat.le_of_ble_eq_true rfl, Nat.le_of_ble_eq_true rfl⟩) hP hD hS hA [0] rfl rfl rfl (fun r1 H locs hw hP hD hS => ?_)
  have hP : va_P g.1 vwCl (List.flatten [kSo g a_so b_ats, kBa g b_ats b_caps b_bytess]) H := hP
  have hD : va_D A (List.flatten [kSo g a_so b_ats, kBa g b_ats b_caps b_bytess]) := hD
  refine lv_if_eq (tgt := 16) hx hb dJ0_charAt_5068e_4 (by decide) (fun c_4 => (hw.1 c_4).elim) (fun c_4 => ?_)
  have hw := hw.2 c_4
  refine lv_aload_n hx hb dJ0_charAt_5068e_7 rfl (lv_at hl 0 rfl) ?_
  refine va_get (D := g.1) (ci := 0) (v := .ref (b_ats 0)) (C := RJ0) (T := TJ0) (N := 4) hx hb hts inJ0_charAt_5068e_J0 hown hE.1 hP 0 rfl rfl 0 (by decide) (gW hts 1 (.fieldLink RJ0 9 "java/lang/String" "value" "[B") rfl) (fun _ h9 => h9) rfl dJ0_charAt_5068e_8 ?_
  refine lv_iload_n hx hb dJ0_charAt_5068e_11 rfl (lv_at hl 1 rfl) ?_
  refine gCi0 (gRunSX (As := [.ref (b_ats 0), .int x1]) (rest := []) ⟨hx, hb, hml, hown, hts⟩ (ctJ1_charAt_3b067_w l g t _ b_ats b_caps b_bytess x1 hw) (va_cwS 2 hts gJ0_charAt_5068e_J1_charAt_3b067 rfl rfl rfl (by decide +kernel) ⟨Nat.le_of_ble_eq_true rfl, Nat.le_of_ble_eq_true rfl⟩) hE hX hS (gFree hD hS hA [1]) (gSub hP [1]) (gDSub hD [1] rfl) rfl rfl hl.1 rfl (lv_room (Nat.le_of_ble_eq_true rfl)) dJ0_charAt_5068e_12 ⟨Nat.le_of_ble_eq_true rfl, Nat.le_of_ble_eq_true rfl⟩) hP hD hS hA [1] rfl rfl rfl (fun r2 H locs hw hP hD hS => ?_)
  have hP : va_P g.1 vwCl (List.flatten [kSo g a_so b_ats, kBa g b_ats b_caps b_bytess]) H := hP
  have hD : va_D A (List.flatten [kSo g a_so b_ats, kBa g b_ats b_caps b_bytess]) := hD
  have h3 := hw.1
  have hw := hw.2
  subst hQ
  exact W.zret (ty := .char) hx hb hr h3 (gRi0 (wf := _) hA0 hsz hw hP hD hS) hS.2.2 dJ0_charAt_5068e_15
