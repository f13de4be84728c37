/-! by program -/
def wpJ8_newLength_cabcc (x0 : Int32) (x1 : Int32) (x2 : Int32) (post : Int32 → Prop) : Prop :=
  (((x0 + (if x1 < x2 then x2 else x1)) ≤ 0 → False) ∧
  (¬ (x0 + (if x1 < x2 then x2 else x1)) ≤ 0 → ((2147483639 < (x0 + (if x1 < x2 then x2 else x1)) → False) ∧
  (¬ 2147483639 < (x0 + (if x1 < x2 then x2 else x1)) → post (x0 + (if x1 < x2 then x2 else x1))))))
def wpJ5_newCapacity_0f7a4 (x1 : Int32) (b_cap : Nat) (post : Int32 → Prop) : Prop :=
  wpJ8_newLength_cabcc (nI b_cap) ((x1 <<< ((0 : Int32) &&& 31)) - (nI b_cap)) ((nI b_cap) + ((2 : Int32) <<< ((0 : Int32) &&& 31))) (fun r1 => ((¬ r1 = 2147483647 → post (r1 >>> ((0 : Int32) &&& 31))) ∧
  (r1 = 2147483647 → False)))
abbrev rmJ8_newLength_cabcc : Room := { frames := 1, cells := 0, slots := 0, locals := 100 }
set_option maxHeartbeats 4000000 in
set_option maxRecDepth 100000 in
theorem ctJ8_newLength_cabcc (l : Launch) (g : GG) (sz : Nat) (x0 : Int32) (x1 : Int32) (x2 : Int32) {post : Int32 → Prop} (hw : wpJ8_newLength_cabcc x0 x1 x2 post) :
    Met l yJ8_newLength_cabcc wsJ8_newLength_cabcc rmJ8_newLength_cabcc (gPc g sz (List.flatten []) [.int x0, .int x1, .int x2]) (gQi0 post (gB g (List.flatten []) sz (List.flatten [])) (va_A (List.flatten []) sz)) 0 0 (va_A (List.flatten []) sz) := by
  refine gOf (cc := cJ8_newLength_cabcc) (maxL := 4) (ret := (some .int)) (by decide) rfl (Nat.le_of_ble_eq_true rfl) ?_
  intro p e s m below meth c ls Q A hQ hx hb hr hml hts hown hlocks hE hA0 hsz hP hD hA hS hl
  have hl : lv_has ls 4 [(0, .int x0), (1, .int x1), (2, .int x2)] := hl
  refine lv_iload_n hx hb dJ8_newLength_cabcc_0 rfl (lv_at hl 0 rfl) ?_
  refine lv_iload_n hx hb dJ8_newLength_cabcc_1 rfl (lv_at hl 1 rfl) ?_
  refine lv_iload_n hx hb dJ8_newLength_cabcc_2 rfl (lv_at hl 2 rfl) ?_
  refine va_mmax hx hb (hml.trans hl.1.symm) hown (gW hts 1 (.methodLink RJ8 194 Lib.Math.max.name) rfl) (gW hts 2 (.static Lib.Math.max.name) rfl) (gW hts 3 (.initialized "java/lang/Math") rfl) (gW hts 4 (.code Lib.Math.max.name Lib.Math.max.code 2 (some .int)) rfl) (Nat.le_of_ble_eq_true rfl) (Nat.le_of_ble_eq_true rfl) (Nat.le_of_ble_eq_true rfl) (Nat.le_of_ble_eq_true rfl) dJ8_newLength_cabcc_3 ?_
  refine lv_iadd hx hb dJ8_newLength_cabcc_6 ?_
  refine lv_istore_n (lv' := [(3, .int (x0 + (if x1 < x2 then x2 else x1))), (0, .int x0), (1, .int x1), (2, .int x2)]) hx hb dJ8_newLength_cabcc_7 rfl hl (by decide) rfl (fun ls hl => ?_)
  refine lv_iconst (v := 0) hx hb dJ8_newLength_cabcc_8 (by decide) ?_
  refine lv_iload_n hx hb dJ8_newLength_cabcc_9 rfl (lv_at hl 0 rfl) ?_
  refine lv_icmp_ge (tgt := 21) hx hb dJ8_newLength_cabcc_10 (by decide) (fun c_10 => (hw.1 c_10).elim) (fun c_10 => ?_)
  have hw := hw.2 c_10
  refine lv_iload_n hx hb dJ8_newLength_cabcc_13 rfl (lv_at hl 0 rfl) ?_
  refine lv_ldc (v := 2147483639) hx hb hown (gW hts 5 (.constant RJ8 200 (2147483639)) rfl) dJ8_newLength_cabcc_14 ?_
  refine lv_icmp_gt (tgt := 21) hx hb dJ8_newLength_cabcc_16 (by decide) (fun c_16 => (hw.1 c_16).elim) (fun c_16 => ?_)
  have hw := hw.2 c_16
  refine lv_iload_n hx hb dJ8_newLength_cabcc_19 rfl (lv_at hl 0 rfl) ?_
  subst hQ
  exact W.iret hx hb hr (gRi0 (wf := _) hA0 hsz hw hP hD hS) hS.2.2 dJ8_newLength_cabcc_20
abbrev rmJ5_newCapacity_0f7a4 : Room := { frames := 2, cells := 0, slots := 0, locals := 124 }
set_option maxRecDepth 20000 in
theorem inJ5_newCapacity_0f7a4_J4 : ∀ w ∈ wsJ40, w ∈ wsJ5_newCapacity_0f7a4 := by decide +kernel
set_option maxHeartbeats 4000000 in
set_option maxRecDepth 100000 in
theorem ctJ5_newCapacity_0f7a4 (l : Launch) (g : GG) (a_sb : Nat → Nat) (sz : Nat) (b_ml : Int32) (b_count : Int32) (b_at : Nat → Nat) (b_cap : Nat) (b_bytes : Nat → Int32) (x1 : Int32) {post : Int32 → Prop} (hw : wpJ5_newCapacity_0f7a4 x1 b_cap post) :
    Met l yJ5_newCapacity_0f7a4 wsJ5_newCapacity_0f7a4 rmJ5_newCapacity_0f7a4 (gPc g sz (List.flatten [kSO g a_sb b_at b_ml b_count, kBa g b_at b_cap b_bytes]) [.ref (a_sb 0), .int x1]) (gQi0 post (gB g (List.flatten [kSO g a_sb b_at b_ml b_count, kBa g b_at b_cap b_bytes]) sz (List.flatten [kSO g a_sb b_at b_ml b_count, kBa g b_at b_cap b_bytes])) (va_A (List.flatten [kSO g a_sb b_at b_ml b_count, kBa g b_at b_cap b_bytes]) sz)) 0 0 (va_A (List.flatten [kSO g a_sb b_at b_ml b_count, kBa g b_at b_cap b_bytes]) sz) := by
  refine gOf (cc := cJ5_newCapacity_0f7a4) (maxL := 6) (ret := (some .int)) (by decide) rfl (Nat.le_of_ble_eq_true rfl) ?_
  intro p e s m below meth c ls Q A hQ hx hb hr hml hts hown hlocks hE hA0 hsz hP hD hA hS hl
  have hl : lv_has ls 6 [(0, .ref (a_sb 0)), (1, .int x1)] := hl
  refine lv_aload_n hx hb dJ5_newCapacity_0f7a4_0 rfl (lv_at hl 0 rfl) ?_
  refine va_get (D := g.1) (ci := 1) (v := .ref (b_at 0)) (C := RJ4) (T := TJ4) (N := 4) hx hb hts inJ5_newCapacity_0f7a4_J4 hown hE.1 hP 0 rfl rfl 0 (by decide) (gW hts 1 (.fieldLink RJ5 15 "java/lang/AbstractStringBuilder" "value" "[B") rfl) (fun _ h9 => h9) rfl dJ5_newCapacity_0f7a4_1 ?_
  refine va_alen hx hb hE.1 hP 1 3 rfl rfl rfl dJ5_newCapacity_0f7a4_4 ?_
  refine lv_istore_n (lv' := [(2, .int (nI b_cap)), (0, .ref (a_sb 0)), (1, .int x1)]) hx hb dJ5_newCapacity_0f7a4_5 rfl hl (by decide) rfl (fun ls hl => ?_)
  refine lv_iload_n hx hb dJ5_newCapacity_0f7a4_6 rfl (lv_at hl 2 rfl) ?_
  refine lv_aload_n hx hb dJ5_newCapacity_0f7a4_7 rfl (lv_at hl 1 rfl) ?_
  refine va_get (D := g.1) (ci := 1) (v := .int 0) (C := RJ4) (T := TJ4) (N := 4) hx hb hts inJ5_newCapacity_0f7a4_J4 hown hE.1 hP 0 rfl rfl 1 (by decide) (gW hts 2 (.fieldLink RJ5 22 "java/lang/AbstractStringBuilder" "coder" "B") rfl) (fun _ h9 => h9) rfl dJ5_newCapacity_0f7a4_8 ?_
  refine lv_ishl hx hb dJ5_newCapacity_0f7a4_11 ?_
  refine lv_istore_n (lv' := [(3, .int (x1 <<< ((0 : Int32) &&& 31))), (2, .int (nI b_cap)), (0, .ref (a_sb 0)), (1, .int x1)]) hx hb dJ5_newCapacity_0f7a4_12 rfl hl (by decide) rfl (fun ls hl => ?_)
  refine lv_iload_n hx hb dJ5_newCapacity_0f7a4_13 rfl (lv_at hl 0 rfl) ?_
  refine lv_iload_n hx hb dJ5_newCapacity_0f7a4_14 rfl (lv_at hl 1 rfl) ?_
  refine lv_isub hx hb dJ5_newCapacity_0f7a4_15 ?_
  refine lv_istore (lv' := [(4, .int ((x1 <<< ((0 : Int32) &&& 31)) - (nI b_cap))), (3, .int (x1 <<< ((0 : Int32) &&& 31))), (2, .int (nI b_cap)), (0, .ref (a_sb 0)), (1, .int x1)]) hx hb dJ5_newCapacity_0f7a4_16 hl (by decide) rfl (fun ls hl => ?_)
  refine lv_iload_n hx hb dJ5_newCapacity_0f7a4_18 rfl (lv_at hl 2 rfl) ?_
  refine lv_iload hx hb dJ5_newCapacity_0f7a4_19 (lv_at hl 0 rfl) ?_
  refine lv_iload_n hx hb dJ5_newCapacity_0f7a4_21 rfl (lv_at hl 2 rfl) ?_
  refine lv_iconst (v := 2) hx hb dJ5_newCapacity_0f7a4_22 (by decide) ?_
  refine lv_aload_n hx hb dJ5_newCapacity_0f7a4_23 rfl (lv_at hl 3 rfl) ?_
  refine va_get (D := g.1) (ci := 1) (v := .int 0) (C := RJ4) (T := TJ4) (N := 4) hx hb hts inJ5_newCapacity_0f7a4_J4 hown hE.1 hP 0 rfl rfl 1 (by decide) (gW hts 2 (.fieldLink RJ5 22 "java/lang/AbstractStringBuilder" "coder" "B") rfl) (fun _ h9 => h9) rfl dJ5_newCapacity_0f7a4_24 ?_
  refine lv_ishl hx hb dJ5_newCapacity_0f7a4_27 ?_
  refine lv_iadd hx hb dJ5_newCapacity_0f7a4_28 ?_
  refine gCi0 (gRunS (As := [.int (nI b_cap), .int ((x1 <<< ((0 : Int32) &&& 31)) - (nI b_cap)), .int ((nI b_cap) + ((2 : Int32) <<< ((0 : Int32) &&& 31)))]) (rest := []) ⟨hx, hb, hml, hown, hts⟩ (ctJ8_newLength_cabcc l g _ (nI b_cap) ((x1 <<< ((0 : Int32) &&& 31)) - (nI b_cap)) ((nI b_cap) + ((2 : Int32) <<< ((0 : Int32) &&& 31))) hw) (va_cwS 3 hts gJ5_newCapacity_0f7a4_J8_newLength_cabcc rfl rfl rfl (by decide +kernel) ⟨Nat.le_of_ble_eq_true rfl, Nat.le_of_ble_eq_true rfl⟩) hE (gSub hP []) (gDSub hD [] rfl) rfl rfl hl.1 rfl (lv_room (Nat.le_of_ble_eq_true rfl)) dJ5_newCapacity_0f7a4_29 ⟨Nat.le_of_ble_eq_true rfl, Nat.le_of_ble_eq_true rfl⟩) hP hD hS hA [] rfl rfl rfl (fun r1 H locs hw hP hD hS => ?_)
  have hP : va_P g.1 vwCl (List.flatten [kSO g a_sb b_at b_ml b_count, kBa g b_at b_cap b_bytes]) H := hP
  have hD : va_D A (List.flatten [kSO g a_sb b_at b_ml b_count, kBa g b_at b_cap b_bytes]) := hD
  refine lv_istore (lv' := [(5, .int r1), (4, .int ((x1 <<< ((0 : Int32) &&& 31)) - (nI b_cap))), (3, .int (x1 <<< ((0 : Int32) &&& 31))), (2, .int (nI b_cap)), (0, .ref (a_sb 0)), (1, .int x1)]) hx hb dJ5_newCapacity_0f7a4_32 hl (by decide) rfl (fun ls hl => ?_)
  refine lv_iload hx hb dJ5_newCapacity_0f7a4_34 (lv_at hl 0 rfl) ?_
  refine lv_ldc (v := 2147483647) hx hb hown (gW hts 3 (.constant RJ5 39 (2147483647)) rfl) dJ5_newCapacity_0f7a4_36 ?_
  refine lv_icmp_ne (tgt := 51) hx hb dJ5_newCapacity_0f7a4_38 (by decide) (fun c_38 => ?_) (fun c_38 => (hw.2 c_38).elim)
  have hw := hw.1 c_38
  refine lv_iload hx hb dJ5_newCapacity_0f7a4_51 (lv_at hl 0 rfl) ?_
  refine lv_aload_n hx hb dJ5_newCapacity_0f7a4_53 rfl (lv_at hl 4 rfl) ?_
  refine va_get (D := g.1) (ci := 1) (v := .int 0) (C := RJ4) (T := TJ4) (N := 4) hx hb hts inJ5_newCapacity_0f7a4_J4 hown hE.1 hP 0 rfl rfl 1 (by decide) (gW hts 2 (.fieldLink RJ5 22 "java/lang/AbstractStringBuilder" "coder" "B") rfl) (fun _ h9 => h9) rfl dJ5_newCapacity_0f7a4_54 ?_
  refine lv_ishr hx hb dJ5_newCapacity_0f7a4_57 ?_
  subst hQ
  exact W.iret hx hb hr (gRi0 (wf := _) hA0 hsz hw hP hD hS) hS.2.2 dJ5_newCapacity_0f7a4_58
abbrev rmJ7_copyOf_9075b : Room := { frames := 1, cells := 1, slots := 200, locals := 100 }
theorem gByte {g : GG} {s : State} {cA : ClassId} {ty : FieldType} {k : Nat} (hE : gE g s) (hK : va_K g.1 vwCl (gTys g ++ [(cA, ty)]) s) (hk : (gTys g)[k]? = some (g.2 k, ty)) (hn : va_RA s cA ty ↔ s.vm.findClass ("[" ++ ty.toString) = some cA) (hn2 : va_RA s (g.2 k) ty ↔ s.vm.findClass ("[" ++ ty.toString) = some (g.2 k)) : cA = g.2 k := by
  have h1 := hn.mp (hK.2 7 (cA, ty) rfl).2
  have h2 := hn2.mp (hE.1.2 k _ hk).2
  rw [h1] at h2
  exact Option.some.inj h2
set_option maxHeartbeats 4000000 in
set_option maxRecDepth 100000 in
/-- Arrays.copyOf of bytes, to a greater length -/
theorem ctJ7_copyOf_9075b (l : Launch) (g : GG) (sz : Nat) (b_at : Nat → Nat) (b_cap : Nat) (b_bytes : Nat → Int32) (n : Nat) (hn : b_cap < n) (hn2 : n ≤ 200) (hf : ∀ i, i < b_cap → fits .byte (.int (b_bytes i)) = true) :
    Met l yJ7_copyOf_9075b wsJ7_copyOf_9075b rmJ7_copyOf_9075b (gPc g sz (List.flatten [kBa g b_at b_cap b_bytes]) [.ref (b_at 0), .int (nI n)]) (va_Qr (fun _ : Unit => True) (fun _ a t => gB g (List.flatten [kBa g b_at b_cap b_bytes]) sz (List.flatten [kBa g b_at b_cap b_bytes, kBa g (fun _ => a) n (va_cpy b_bytes (fun _ => 0) 0 0 b_cap)]) t) (va_A (List.flatten [kBa g b_at b_cap b_bytes]) sz)) 1 200 (va_A (List.flatten [kBa g b_at b_cap b_bytes]) sz) := by
  refine gOf (cc := cJ7_copyOf_9075b) (maxL := 3) (ret := (some (.array .byte))) (by decide) rfl (Nat.le_of_ble_eq_true rfl) ?_
  intro p e s m below meth c ls Q A hQ hx hb hr hml hts hown hlocks hE hA0 hsz hP hD hA hS hl
  have hl : lv_has ls 3 [(0, .ref (b_at 0)), (1, .int (nI n))] := hl
  refine lv_iload_n hx hb dJ7_copyOf_9075b_0 rfl (lv_at hl 1 rfl) ?_
  refine lv_aload_n hx hb dJ7_copyOf_9075b_1 rfl (lv_at hl 0 rfl) ?_
  refine va_alen hx hb hE.1 hP 0 3 rfl rfl rfl dJ7_copyOf_9075b_2 ?_
  refine lv_icmp_ne (tgt := 14) hx hb dJ7_copyOf_9075b_3 (by decide) (fun _ => ?_) (fun h => absurd ((nI_eq (by omega) (by omega)).mp h) (by omega))
  refine lv_iload_n hx hb dJ7_copyOf_9075b_14 rfl (lv_at hl 1 rfl) ?_
  refine va_newa (atype := .byte) (N' := n) (a0 := (n, .inl (fun _ => 0))) hx hb (gW hts 7 (.arrayClass .byte) rfl) rfl hE.1 hP hD hS hA (fun _ => rfl) (nI_pos (by omega)) (nI_clamp (by omega)) (by show n * 1 ≤ 536870912; omega) (Nat.le_of_ble_eq_true rfl) (by show 0 + n ≤ 200; omega) dJ7_copyOf_9075b_15 (fun q cA H hK hP hD hS => ?_)
  have hcA : cA = g.2 3 := gByte hE hK (k := 3) rfl Iff.rfl Iff.rfl
  subst hcA
  have hP : va_P g.1 vwCl (List.flatten [kBa g b_at b_cap b_bytes, kBa g (fun _ => q) n (fun _ => 0)]) H := hP
  have hD : va_D A (List.flatten [kBa g b_at b_cap b_bytes, kBa g (fun _ => q) n (fun _ => 0)]) := hD
  refine lv_astore_n (lv' := [(2, .ref q), (0, .ref (b_at 0)), (1, .int (nI n))]) hx hb dJ7_copyOf_9075b_17 rfl hl (by decide) rfl (fun ls hl => ?_)
  refine lv_aload_n hx hb dJ7_copyOf_9075b_18 rfl (lv_at hl 1 rfl) ?_
  refine lv_iconst (v := 0) hx hb dJ7_copyOf_9075b_19 (by decide) ?_
  refine lv_aload_n hx hb dJ7_copyOf_9075b_20 rfl (lv_at hl 0 rfl) ?_
  refine lv_iconst (v := 0) hx hb dJ7_copyOf_9075b_21 (by decide) ?_
  refine lv_aload_n hx hb dJ7_copyOf_9075b_22 rfl (lv_at hl 1 rfl) ?_
  refine va_alen hx hb hE.1 hP 0 3 rfl rfl rfl dJ7_copyOf_9075b_23 ?_
  refine lv_iload_n hx hb dJ7_copyOf_9075b_24 rfl (lv_at hl 2 rfl) ?_
  refine va_mmin hx hb (hml.trans hl.1.symm) hown (gW hts 8 (.methodLink RJ7 304 Lib.Math.min.name) rfl) (gW hts 9 (.static Lib.Math.min.name) rfl) (gW hts 10 (.initialized "java/lang/Math") rfl) (gW hts 11 (.code Lib.Math.min.name Lib.Math.min.code 2 (some .int)) rfl) (Nat.le_of_ble_eq_true rfl) (Nat.le_of_ble_eq_true rfl) (Nat.le_of_ble_eq_true rfl) (by show 0 + n ≤ 200; omega) dJ7_copyOf_9075b_25 ?_
  refine W.eq (g2 := F0 m 28 ls [.int (nI b_cap), .int 0, .ref q, .int 0, .ref (b_at 0)]) (by rw [if_neg (show ¬ nI n < Int32.ofNat b_cap from nI_nlt (by omega) (by omega))]; rfl) ?_
  have e0 : (0 : Int32).toNatClampNeg = 0 := sb_cl0
  have e1 : (nI b_cap).toNatClampNeg = b_cap := nI_clamp (by omega)
  refine va_copyi (f := b_bytes) (g := fun _ => 0) hx hb (hml.trans hl.1.symm) hown (gW hts 12 (.methodLink RJ7 150 arraycopyName) rfl) (gW hts 13 (.native arraycopyName) rfl) (gW hts 14 (.static arraycopyName) rfl) (gW hts 15 (.initialized "java/lang/System") rfl) hE.1 hP hD hS 0 1 3 3 rfl rfl rfl rfl rfl (by decide) (by decide) (nI_pos (by omega)) (by rw [e0, e1]; omega) (by rw [e0, e1]; omega) (fun i hi => by rw [e0, Nat.zero_add]; exact hf i (by rw [e1] at hi; exact hi)) (Nat.le_of_ble_eq_true rfl) (by decide +kernel) dJ7_copyOf_9075b_28 (fun H locs hP hD hS => ?_)
  rw [e0, e1] at hP hD
  have hP : va_P g.1 vwCl (List.flatten [kBa g b_at b_cap b_bytes, kBa g (fun _ => q) n (va_cpy b_bytes (fun _ => 0) 0 0 b_cap)]) H := hP
  have hD : va_D A (List.flatten [kBa g b_at b_cap b_bytes, kBa g (fun _ => q) n (va_cpy b_bytes (fun _ => 0) 0 0 b_cap)]) := hD
  refine lv_aload_n hx hb dJ7_copyOf_9075b_31 rfl (lv_at hl 0 rfl) ?_
  subst hQ
  refine W.widen (k := 1) (n := 200) (Nat.le_of_ble_eq_true rfl) (by show 0 + n ≤ 200; omega) ?_
  exact W.aret hx hb hr (Or.inr ⟨_, rfl⟩) (Or.inr ⟨_, rfl⟩) (fun t ht _ => ⟨⟨(), q, rfl, trivial, by rw [ht]; exact hP, by rw [← hA0]; exact hD⟩, by rw [← hA0]; exact hS.F ht⟩) hS.2.2 dJ7_copyOf_9075b_32
/-- a builder's capacity, asked to hold at most one more -/
def wpJ5_ensureCapacityInternal_d00df_g (x1 : Int32) (b_cap : Nat) (b_bytes : Nat → Int32) (post : (Nat → Nat) → Nat → (Nat → Int32) → Prop) : Prop :=
  ∃ q : Nat, x1 = nI q ∧ q ≤ 2 * b_cap + 2 ∧ b_cap ≤ 90 ∧ (∀ i, i < b_cap → fits .byte (.int (b_bytes i)) = true) ∧ (q ≤ b_cap → ∀ a, post a b_cap b_bytes) ∧ (b_cap < q → ∀ a, post a (2 * b_cap + 2) (va_cpy b_bytes (fun _ => 0) 0 0 b_cap))
theorem wpJ5_newCapacity_grow {b_cap q : Nat} (h : b_cap ≤ 90) (hq1 : b_cap < q) (hq2 : q ≤ 2 * b_cap + 2) {post : Int32 → Prop} (hp : post (nI (2 * b_cap + 2))) : wpJ5_newCapacity_0f7a4 (nI q) b_cap post := by
  unfold wpJ5_newCapacity_0f7a4 wpJ8_newLength_cabcc
  have e1 : (nI q <<< ((0 : Int32) &&& 31)) - nI b_cap = nI (q - b_cap) := by
    rw [sb_shl0, pk_sub (by omega)]
  have em : (if nI (q - b_cap) < nI (b_cap + 2) then nI (b_cap + 2) else nI (q - b_cap)) = nI (b_cap + 2) := by
    by_cases z : q - b_cap < b_cap + 2
    · exact if_pos (nI_lt z (by omega))
    · rw [show q - b_cap = b_cap + 2 by omega, if_neg (nI_nlt (Nat.le_refl _) (by omega))]
  have e2 : nI b_cap + ((2 : Int32) <<< ((0 : Int32) &&& 31)) = nI (b_cap + 2) := by
    rw [sb_shl0]
    exact nI_add b_cap 2
  have e3 : nI b_cap + nI (b_cap + 2) = nI (2 * b_cap + 2) := by
    rw [nI_add]
    congr 1
    omega
  rw [e1, e2, em, e3]
  refine ⟨fun c => nI_nle (by omega) (by omega) c, fun _ => ⟨fun c => nI_nlt (a := 2147483639) (b := 2 * b_cap + 2) (by omega) (by omega) c, fun _ => ⟨fun _ => by rw [sb_shr0]; exact hp, fun c => ?_⟩⟩⟩
  have := (nI_eq (a := 2 * b_cap + 2) (b := 2147483647) (by omega) (by omega)).mp c
  omega
abbrev rmJ5_ensureCapacityInternal_d00df_g : Room := { frames := 4, cells := 1, slots := 200, locals := 400 }
set_option maxHeartbeats 4000000 in
set_option maxRecDepth 100000 in
theorem ctJ5_ensureCapacityInternal_d00df_g (l : Launch) (g : GG) (t : GT) (a_sb : Nat → Nat) (sz : Nat) (b_ml b_count : Int32) (b_at : Nat → Nat) (b_cap : Nat) (b_bytes : Nat → Int32) (x1 : Int32) {post : (Nat → Nat) → Nat → (Nat → Int32) → Prop} (hw : wpJ5_ensureCapacityInternal_d00df_g x1 b_cap b_bytes post) :
    Met l yJ5_ensureCapacityInternal_d00df wsJ5_ensureCapacityInternal_d00df rmJ5_ensureCapacityInternal_d00df_g (gPX g t sz (List.flatten [kSO g a_sb b_at b_ml b_count, kBa g b_at b_cap b_bytes]) [.ref (a_sb 0), .int x1]) (gQv3 post (fun u1 u2 u3 => gB g (List.flatten [kSO g a_sb b_at b_ml b_count, kBa g b_at b_cap b_bytes]) sz (List.flatten [kSO g a_sb u1 b_ml b_count, kBa g u1 u2 u3])) (va_A (List.flatten [kSO g a_sb b_at b_ml b_count, kBa g b_at b_cap b_bytes]) sz)) 1 200 (va_A (List.flatten [kSO g a_sb b_at b_ml b_count, kBa g b_at b_cap b_bytes]) sz) := by
  obtain ⟨q, rfl, hq1, hq2, hfit, hw1, hw2⟩ := hw
  refine gOfX (cc := cJ5_ensureCapacityInternal_d00df) (maxL := 3) (ret := none) (by decide) rfl (Nat.le_of_ble_eq_true rfl) ?_
  intro p e s m below meth c ls Q A hQ hx hb hr hml hts hown hlocks hE hA0 hsz hP hD hA hS hl hX
  have hl : lv_has ls 3 [(0, .ref (a_sb 0)), (1, .int (nI q))] := hl
  refine lv_aload_n hx hb dJ5_ensureCapacityInternal_d00df_0 rfl (lv_at hl 0 rfl) ?_
  refine va_get (D := g.1) (ci := 1) (v := .ref (b_at 0)) (C := RJ4) (T := TJ4) (N := 4) hx hb hts inJ5_ensureCapacityInternal_d00df_J4 hown hE.1 hP 0 rfl rfl 0 (by decide) (gW hts 1 (.fieldLink RJ5 15 "java/lang/AbstractStringBuilder" "value" "[B") rfl) (fun _ h9 => h9) rfl dJ5_ensureCapacityInternal_d00df_1 ?_
  refine va_alen hx hb hE.1 hP 1 3 rfl rfl rfl dJ5_ensureCapacityInternal_d00df_4 ?_
  refine lv_aload_n hx hb dJ5_ensureCapacityInternal_d00df_5 rfl (lv_at hl 0 rfl) ?_
  refine va_get (D := g.1) (ci := 1) (v := .int 0) (C := RJ4) (T := TJ4) (N := 4) hx hb hts inJ5_ensureCapacityInternal_d00df_J4 hown hE.1 hP 0 rfl rfl 1 (by decide) (gW hts 2 (.fieldLink RJ5 22 "java/lang/AbstractStringBuilder" "coder" "B") rfl) (fun _ h9 => h9) rfl dJ5_ensureCapacityInternal_d00df_6 ?_
  refine lv_ishr hx hb dJ5_ensureCapacityInternal_d00df_9 ?_
  refine W.eq (g2 := F0 m 10 ls [.int (nI b_cap)]) (by rw [sb_shr0]; rfl) ?_
  refine lv_istore_n (lv' := [(2, .int (nI b_cap)), (0, .ref (a_sb 0)), (1, .int (nI q))]) hx hb dJ5_ensureCapacityInternal_d00df_10 rfl hl (by decide) rfl (fun ls hl => ?_)
  refine lv_iload_n hx hb dJ5_ensureCapacityInternal_d00df_11 rfl (lv_at hl 2 rfl) ?_
  refine lv_iload_n hx hb dJ5_ensureCapacityInternal_d00df_12 rfl (lv_at hl 0 rfl) ?_
  refine lv_isub hx hb dJ5_ensureCapacityInternal_d00df_13 ?_
  have es : (nI q - nI b_cap).toInt = (q : Int) - b_cap := pk_sub_toInt (by omega) (by omega)
  refine lv_if_le (tgt := 38) hx hb dJ5_ensureCapacityInternal_d00df_14 (by decide) (fun h1 => ?_) (fun h1 => ?_)
  · have h2 : q ≤ b_cap := by rw [Int32.le_iff_toInt_le, es, Int32.toInt_zero] at h1; omega
    subst hQ
    refine W.widen (k := 1) (n := 200) (Nat.le_of_ble_eq_true rfl) (Nat.le_of_ble_eq_true rfl) ?_
    exact W.vret hx hb hr (gRv3 (c1 := b_at) (c2 := b_cap) (c3 := b_bytes) (wf := _) hA0 hsz (hw1 h2 b_at) hP hD hS) hS.2.2 dJ5_ensureCapacityInternal_d00df_38
  · have h2 : b_cap < q := by rw [Int32.le_iff_toInt_le, es, Int32.toInt_zero] at h1; omega
    have h3 : q ≤ 2 * b_cap + 2 := by omega
    refine lv_aload_n hx hb dJ5_ensureCapacityInternal_d00df_17 rfl (lv_at hl 1 rfl) ?_
    refine lv_aload_n hx hb dJ5_ensureCapacityInternal_d00df_18 rfl (lv_at hl 1 rfl) ?_
    refine va_get (D := g.1) (ci := 1) (v := .ref (b_at 0)) (C := RJ4) (T := TJ4) (N := 4) hx hb hts inJ5_ensureCapacityInternal_d00df_J4 hown hE.1 hP 0 rfl rfl 0 (by decide) (gW hts 1 (.fieldLink RJ5 15 "java/lang/AbstractStringBuilder" "value" "[B") rfl) (fun _ h9 => h9) rfl dJ5_ensureCapacityInternal_d00df_19 ?_
    refine lv_aload_n hx hb dJ5_ensureCapacityInternal_d00df_22 rfl (lv_at hl 1 rfl) ?_
    refine lv_iload_n hx hb dJ5_ensureCapacityInternal_d00df_23 rfl (lv_at hl 2 rfl) ?_
    refine gCi0 (gRunU (As := [.int (nI q)]) (rest := [.ref (b_at 0), .ref (a_sb 0)]) ⟨hx, hb, hml, hown, hts⟩ (ctJ5_newCapacity_0f7a4 l g a_sb _ b_ml b_count b_at b_cap b_bytes (nI q) (wpJ5_newCapacity_grow (post := fun r => r = nI (2 * b_cap + 2)) (by omega) h2 h3 rfl)) (va_cwU 1 hts gJ5_ensureCapacityInternal_d00df_J5_newCapacity_0f7a4_u104J4 rfl rfl rfl rfl (by decide +kernel) ⟨Nat.le_of_ble_eq_true rfl, Nat.le_of_ble_eq_true rfl⟩) hE (gSub hP [0, 1]) (gDSub hD [0, 1] rfl) 0 1 rfl rfl rfl rfl rfl hl.1 rfl (lv_room (Nat.le_of_ble_eq_true rfl)) dJ5_ensureCapacityInternal_d00df_24 ⟨Nat.le_of_ble_eq_true rfl, Nat.le_of_ble_eq_true rfl⟩) hP hD hS hA [0, 1] rfl rfl rfl (fun r H locs hw hP hD hS => ?_)
    subst hw
    have hP : va_P g.1 vwCl (List.flatten [kSO g a_sb b_at b_ml b_count, kBa g b_at b_cap b_bytes]) H := hP
    have hD : va_D A (List.flatten [kSO g a_sb b_at b_ml b_count, kBa g b_at b_cap b_bytes]) := hD
    refine lv_aload_n hx hb dJ5_ensureCapacityInternal_d00df_27 rfl (lv_at hl 1 rfl) ?_
    refine va_get (D := g.1) (ci := 1) (v := .int 0) (C := RJ4) (T := TJ4) (N := 4) hx hb hts inJ5_ensureCapacityInternal_d00df_J4 hown hE.1 hP 0 rfl rfl 1 (by decide) (gW hts 2 (.fieldLink RJ5 22 "java/lang/AbstractStringBuilder" "coder" "B") rfl) (fun _ h9 => h9) rfl dJ5_ensureCapacityInternal_d00df_28 ?_
    refine lv_ishl hx hb dJ5_ensureCapacityInternal_d00df_31 ?_
    refine W.eq (g2 := F0 m 32 ls [.int (nI (2 * b_cap + 2)), .ref (b_at 0), .ref (a_sb 0)]) (by rw [sb_shl0]) ?_
    have hF := gFree hD hS hA [1]
    refine va_callr (gRunS (As := [.ref (b_at 0), .int (nI (2 * b_cap + 2))]) (rest := [.ref (a_sb 0)]) ⟨hx, hb, hml, hown, hts⟩ (ctJ7_copyOf_9075b l g _ b_at b_cap b_bytes (2 * b_cap + 2) (by omega) (by omega) hfit) (va_cwS 2 hts gJ5_ensureCapacityInternal_d00df_J7_copyOf_9075b rfl rfl rfl (by decide +kernel) ⟨Nat.le_of_ble_eq_true rfl, Nat.le_of_ble_eq_true rfl⟩) hE (gSub hP [1]) (gDSub hD [1] rfl) rfl rfl hl.1 rfl (lv_room (Nat.le_of_ble_eq_true rfl)) dJ5_ensureCapacityInternal_d00df_32 ⟨Nat.le_of_ble_eq_true rfl, Nat.le_of_ble_eq_true rfl⟩) hS (fun q _ h => hF q h) hF (fun u ra t9 H1 locs ht hvm hw0 hB hz1 hk1 hS => ?_)
    obtain ⟨hP1, hD1⟩ := hB
    rw [ht] at hP1
    have hP1 : va_P g.1 vwCl (List.flatten [List.flatten [kBa g b_at b_cap b_bytes, kBa g (fun _ => ra) (2 * b_cap + 2) (va_cpy b_bytes (fun _ => 0) 0 0 b_cap)]]) H1 := hP1
    have hD1 : va_D (va_A (gPick [kSO g a_sb b_at b_ml b_count, kBa g b_at b_cap b_bytes] [1]).flatten H.size) (List.flatten [List.flatten [kBa g b_at b_cap b_bytes, kBa g (fun _ => ra) (2 * b_cap + 2) (va_cpy b_bytes (fun _ => 0) 0 0 b_cap)]]) := hD1
    obtain ⟨hP, hD⟩ := gJoin hP hD [1] [List.flatten [kBa g b_at b_cap b_bytes, kBa g (fun _ => ra) (2 * b_cap + 2) (va_cpy b_bytes (fun _ => 0) 0 0 b_cap)]] rfl rfl hk1 hF hP1 hD1
    have hP : va_P g.1 vwCl (List.flatten [kSO g a_sb b_at b_ml b_count, kBa g b_at b_cap b_bytes, kBa g (fun _ => ra) (2 * b_cap + 2) (va_cpy b_bytes (fun _ => 0) 0 0 b_cap)]) H1 := hP
    have hD : va_D A (List.flatten [kSO g a_sb b_at b_ml b_count, kBa g b_at b_cap b_bytes, kBa g (fun _ => ra) (2 * b_cap + 2) (va_cpy b_bytes (fun _ => 0) 0 0 b_cap)]) := hD
    refine va_put (D := g.1) (ci := 1) (v := .ref ra) (ty := .array .byte) (C := RJ4) (T := TJ4) (N := 4) hx hb hts inJ5_ensureCapacityInternal_d00df_J4 tyJ4 tyJ4_ok nmJ4 hown hE.1 hP hD hS 0 rfl rfl 0 (by decide) (gW hts 1 (.fieldLink RJ5 15 "java/lang/AbstractStringBuilder" "value" "[B") rfl) (fun _ h9 => h9) rfl (by decide +kernel) rfl rfl (Nat.le_of_ble_eq_true rfl) dJ5_ensureCapacityInternal_d00df_35 (fun H locs hP hD hS => ?_)
    have hP : va_P g.1 vwCl (List.flatten [kSO g a_sb (fun _ => ra) b_ml b_count, kBa g b_at b_cap b_bytes, kBa g (fun _ => ra) (2 * b_cap + 2) (va_cpy b_bytes (fun _ => 0) 0 0 b_cap)]) H := hP
    have hD : va_D A (List.flatten [kSO g a_sb (fun _ => ra) b_ml b_count, kBa g b_at b_cap b_bytes, kBa g (fun _ => ra) (2 * b_cap + 2) (va_cpy b_bytes (fun _ => 0) 0 0 b_cap)]) := hD
    have hP := gSub hP [0, 2]
    have hD := gDSub hD [0, 2] rfl
    subst hQ
    refine W.widen (k := 1) (n := 200) (Nat.le_of_ble_eq_true rfl) (Nat.le_of_ble_eq_true rfl) ?_
    exact W.vret hx hb hr (gRv3 (c1 := fun _ => ra) (c2 := 2 * b_cap + 2) (c3 := va_cpy b_bytes (fun _ => 0) 0 0 b_cap) (wf := _) hA0 hsz (hw2 h2 (fun _ => ra)) hP hD hS) hS.2.2 dJ5_ensureCapacityInternal_d00df_38
def wpJ5_append_3fe6f_g (x1 : Int32) (b_count : Int32) (b_at : Nat → Nat) (b_cap : Nat) (b_bytes : Nat → Int32) (post : Int32 → (Nat → Nat) → Nat → (Nat → Int32) → Prop) : Prop :=
  wpJ5_ensureCapacityInternal_d00df_g (b_count + 1) b_cap b_bytes (fun b_at_v1 b_cap_v1 b_bytes_v1 => wpJ5_isLatin1_aae02 (fun r2 => ((r2 = 0 → False) ∧
  (¬ r2 = 0 → wpJ1_canEncode_fc78d x1 (fun r3 => ((r3 = 0 → False) ∧
  (¬ r3 = 0 → (vp_in b_count b_cap_v1 ∧
  post (b_count + 1) b_at_v1 b_cap_v1 (upd b_bytes_v1 b_count.toNatClampNeg (vp_nar .byte (x1.toInt8.toInt32)))))))))))
def wpJ4_append_cf468_g (x1 : Int32) (b_count : Int32) (b_at : Nat → Nat) (b_cap : Nat) (b_bytes : Nat → Int32) (post : Int32 → (Nat → Nat) → Nat → (Nat → Int32) → Prop) : Prop :=
  wpJ5_append_3fe6f_g x1 b_count b_at b_cap b_bytes (fun b_count_v1 b_at_v1 b_cap_v1 b_bytes_v1 => post b_count_v1 b_at_v1 b_cap_v1 b_bytes_v1)
def wpX6_type (x1 : Int32) (b_countt : Int32) (b_att : Nat → Nat) (b_capt : Nat) (b_bytest : Nat → Int32) (post : Int32 → Int32 → (Nat → Nat) → Nat → (Nat → Int32) → Prop) (px : String → Int32 → (Nat → Nat) → Nat → (Nat → Int32) → Prop) : Prop :=
  ((x1 < 32 → px "java/lang/IllegalArgumentException" b_countt b_att b_capt b_bytest) ∧
  (¬ x1 < 32 → ((x1 ≤ 126 → wpJ4_length_8abf5 b_countt (fun r1 => ((r1 < 60 → wpJ4_append_cf468_g x1 b_countt b_att b_capt b_bytest (fun b_countt_v2 b_att_v2 b_capt_v2 b_bytest_v2 => wpJ4_length_8abf5 b_countt_v2 (fun r3 => post r3 b_countt_v2 b_att_v2 b_capt_v2 b_bytest_v2))) ∧
  (¬ r1 < 60 → px "java/lang/IllegalStateException" b_countt b_att b_capt b_bytest)))) ∧
  (¬ x1 ≤ 126 → px "java/lang/IllegalArgumentException" b_countt b_att b_capt b_bytest))))
abbrev rmJ5_append_3fe6f_g : Room := { frames := 5, cells := 1, slots := 200, locals := 423 }
set_option maxHeartbeats 4000000 in
set_option maxRecDepth 100000 in
theorem ctJ5_append_3fe6f_g (l : Launch) (g : GG) (t : GT) (a_sb : Nat → Nat) (sz : Nat) (b_ml : Int32) (b_count : Int32) (b_at : Nat → Nat) (b_cap : Nat) (b_bytes : Nat → Int32) (x1 : Int32) {post : Int32 → (Nat → Nat) → Nat → (Nat → Int32) → Prop} (hw : wpJ5_append_3fe6f_g x1 b_count b_at b_cap b_bytes post) :
    Met l yJ5_append_3fe6f wsJ5_append_3fe6f rmJ5_append_3fe6f_g (gPX g t sz (List.flatten [kSO g a_sb b_at b_ml b_count, kBa g b_at b_cap b_bytes]) [.ref (a_sb 0), .int x1]) (gQr4 post (fun u1 u2 u3 u4 => gB g (List.flatten [kSO g a_sb b_at b_ml b_count, kBa g b_at b_cap b_bytes]) sz (List.flatten [kSO g a_sb u2 b_ml u1, kBa g u2 u3 u4])) (va_A (List.flatten [kSO g a_sb b_at b_ml b_count, kBa g b_at b_cap b_bytes]) sz)) 1 200 (va_A (List.flatten [kSO g a_sb b_at b_ml b_count, kBa g b_at b_cap b_bytes]) sz) := by
  refine gOfX (cc := cJ5_append_3fe6f) (maxL := 2) (ret := (some (.object "java/lang/AbstractStringBuilder"))) (by decide) rfl (Nat.le_of_ble_eq_true rfl) ?_
  intro p e s m below meth c ls Q A hQ hx hb hr hml hts hown hlocks hE hA0 hsz hP hD hA hS hl hX
  have hl : lv_has ls 2 [(0, .ref (a_sb 0)), (1, .int x1)] := hl
  refine lv_aload_n hx hb dJ5_append_3fe6f_0 rfl (lv_at hl 0 rfl) ?_
  refine lv_aload_n hx hb dJ5_append_3fe6f_1 rfl (lv_at hl 0 rfl) ?_
  refine va_get (D := g.1) (ci := 1) (v := .int b_count) (C := RJ4) (T := TJ4) (N := 4) hx hb hts inJ5_append_3fe6f_J4 hown hE.1 hP 0 rfl rfl 3 (by decide) (gW hts 1 (.fieldLink RJ5 79 "java/lang/AbstractStringBuilder" "count" "I") rfl) (fun _ h9 => h9) rfl dJ5_append_3fe6f_2 ?_
  refine lv_iconst (v := 1) hx hb dJ5_append_3fe6f_5 (by decide) ?_
  refine lv_iadd hx hb dJ5_append_3fe6f_6 ?_
  refine gCv3 (gRunUX (As := [.int (b_count + 1)]) (rest := []) ⟨hx, hb, hml, hown, hts⟩ (ctJ5_ensureCapacityInternal_d00df_g l g t a_sb _ b_ml b_count b_at b_cap b_bytes (b_count + 1) hw) (va_cwU 1 hts gJ5_append_3fe6f_J5_ensureCapacityInternal_d00df_u100J4 rfl rfl rfl rfl (by decide +kernel) ⟨Nat.le_of_ble_eq_true rfl, Nat.le_of_ble_eq_true rfl⟩) hE hX hS (gFree hD hS hA [0, 1]) (gSub hP [0, 1]) (gDSub hD [0, 1] rfl) 0 1 rfl rfl rfl rfl rfl hl.1 rfl (lv_room (Nat.le_of_ble_eq_true rfl)) dJ5_append_3fe6f_7 ⟨Nat.le_of_ble_eq_true rfl, Nat.le_of_ble_eq_true rfl⟩) hP hD hS hA [0, 1] rfl (fun _ _ _ => rfl) rfl (fun b_at_v1 b_cap_v1 b_bytes_v1 H locs hw hP hD hS => ?_)
  have hP : va_P g.1 vwCl (List.flatten [kSO g a_sb b_at_v1 b_ml b_count, kBa g b_at_v1 b_cap_v1 b_bytes_v1]) H := hP
  have hD : va_D A (List.flatten [kSO g a_sb b_at_v1 b_ml b_count, kBa g b_at_v1 b_cap_v1 b_bytes_v1]) := hD
  refine lv_aload_n hx hb dJ5_append_3fe6f_10 rfl (lv_at hl 0 rfl) ?_
  refine gCi0 (gRunUX (As := []) (rest := []) ⟨hx, hb, hml, hown, hts⟩ (ctJ5_isLatin1_aae02 l g t a_sb b_at_v1 _ b_ml b_count hw) (va_cwU 0 hts gJ5_append_3fe6f_J5_isLatin1_aae02_u83J4 rfl rfl rfl rfl (by decide +kernel) ⟨Nat.le_of_ble_eq_true rfl, Nat.le_of_ble_eq_true rfl⟩) hE hX hS (gFree hD hS hA [0]) (gSub hP [0]) (gDSub hD [0] rfl) 0 1 rfl rfl rfl rfl rfl hl.1 rfl (lv_room (Nat.le_of_ble_eq_true rfl)) dJ5_append_3fe6f_11 ⟨Nat.le_of_ble_eq_true rfl, Nat.le_of_ble_eq_true rfl⟩) hP hD hS hA [0] rfl rfl rfl (fun r2 H locs hw hP hD hS => ?_)
  have hP : va_P g.1 vwCl (List.flatten [kSO g a_sb b_at_v1 b_ml b_count, kBa g b_at_v1 b_cap_v1 b_bytes_v1]) H := hP
  have hD : va_D A (List.flatten [kSO g a_sb b_at_v1 b_ml b_count, kBa g b_at_v1 b_cap_v1 b_bytes_v1]) := hD
  refine lv_if_eq (tgt := 45) hx hb dJ5_append_3fe6f_14 (by decide) (fun c_14 => (hw.1 c_14).elim) (fun c_14 => ?_)
  have hw := hw.2 c_14
  refine lv_iload_n hx hb dJ5_append_3fe6f_17 rfl (lv_at hl 1 rfl) ?_
  refine gCi0 (gRunS (As := [.int x1]) (rest := []) ⟨hx, hb, hml, hown, hts⟩ (ctJ1_canEncode_fc78d l g _ x1 hw) (va_cwS 1 hts gJ5_append_3fe6f_J1_canEncode_fc78d rfl rfl rfl (by decide +kernel) ⟨Nat.le_of_ble_eq_true rfl, Nat.le_of_ble_eq_true rfl⟩) hE (gSub hP []) (gDSub hD [] rfl) rfl rfl hl.1 rfl (lv_room (Nat.le_of_ble_eq_true rfl)) dJ5_append_3fe6f_18 ⟨Nat.le_of_ble_eq_true rfl, Nat.le_of_ble_eq_true rfl⟩) hP hD hS hA [] rfl rfl rfl (fun r3 H locs hw hP hD hS => ?_)
  have hP : va_P g.1 vwCl (List.flatten [kSO g a_sb b_at_v1 b_ml b_count, kBa g b_at_v1 b_cap_v1 b_bytes_v1]) H := hP
  have hD : va_D A (List.flatten [kSO g a_sb b_at_v1 b_ml b_count, kBa g b_at_v1 b_cap_v1 b_bytes_v1]) := hD
  refine lv_if_eq (tgt := 45) hx hb dJ5_append_3fe6f_21 (by decide) (fun c_21 => (hw.1 c_21).elim) (fun c_21 => ?_)
  have hw := hw.2 c_21
  refine lv_aload_n hx hb dJ5_append_3fe6f_24 rfl (lv_at hl 0 rfl) ?_
  refine va_get (D := g.1) (ci := 1) (v := .ref (b_at_v1 0)) (C := RJ4) (T := TJ4) (N := 4) hx hb hts inJ5_append_3fe6f_J4 hown hE.1 hP 0 rfl rfl 0 (by decide) (gW hts 2 (.fieldLink RJ5 15 "java/lang/AbstractStringBuilder" "value" "[B") rfl) (fun _ h9 => h9) rfl dJ5_append_3fe6f_25 ?_
  refine lv_aload_n hx hb dJ5_append_3fe6f_28 rfl (lv_at hl 0 rfl) ?_
  refine lv_dup hx hb dJ5_append_3fe6f_29 rfl ?_
  refine va_get (D := g.1) (ci := 1) (v := .int b_count) (C := RJ4) (T := TJ4) (N := 4) hx hb hts inJ5_append_3fe6f_J4 hown hE.1 hP 0 rfl rfl 3 (by decide) (gW hts 1 (.fieldLink RJ5 79 "java/lang/AbstractStringBuilder" "count" "I") rfl) (fun _ h9 => h9) rfl dJ5_append_3fe6f_30 ?_
  refine lv_dup_x1 hx hb dJ5_append_3fe6f_33 rfl rfl ?_
  refine lv_iconst (v := 1) hx hb dJ5_append_3fe6f_34 (by decide) ?_
  refine lv_iadd hx hb dJ5_append_3fe6f_35 ?_
  refine va_put (D := g.1) (ci := 1) (v := .int (b_count + 1)) (ty := .int) (C := RJ4) (T := TJ4) (N := 4) hx hb hts inJ5_append_3fe6f_J4 tyJ4 tyJ4_ok nmJ4 hown hE.1 hP hD hS 0 rfl rfl 3 (by decide) (gW hts 1 (.fieldLink RJ5 79 "java/lang/AbstractStringBuilder" "count" "I") rfl) (fun _ h9 => h9) rfl (by decide +kernel) rfl rfl (Nat.le_of_ble_eq_true rfl) dJ5_append_3fe6f_36 (fun H locs hP hD hS => ?_)
  have hP : va_P g.1 vwCl (List.flatten [kSO g a_sb b_at_v1 b_ml (b_count + 1), kBa g b_at_v1 b_cap_v1 b_bytes_v1]) H := hP
  have hD : va_D A (List.flatten [kSO g a_sb b_at_v1 b_ml (b_count + 1), kBa g b_at_v1 b_cap_v1 b_bytes_v1]) := hD
  refine lv_iload_n hx hb dJ5_append_3fe6f_39 rfl (lv_at hl 1 rfl) ?_
  refine lv_i2b (v := (x1.toInt8.toInt32)) hx hb dJ5_append_3fe6f_40 rfl ?_
  have h4 := hw.1
  have hw := hw.2
  refine va_bast hx hb hE.1 hP hD hS 1 3 rfl rfl h4 dJ5_append_3fe6f_41 (fun H locs hP hD hS => ?_)
  have hP : va_P g.1 vwCl (List.flatten [kSO g a_sb b_at_v1 b_ml (b_count + 1), kBa g b_at_v1 b_cap_v1 (upd b_bytes_v1 b_count.toNatClampNeg (vp_nar .byte (x1.toInt8.toInt32)))]) H := hP
  have hD : va_D A (List.flatten [kSO g a_sb b_at_v1 b_ml (b_count + 1), kBa g b_at_v1 b_cap_v1 (upd b_bytes_v1 b_count.toNatClampNeg (vp_nar .byte (x1.toInt8.toInt32)))]) := hD
  refine lv_goto (tgt := 75) hx hb dJ5_append_3fe6f_42 (by decide) ?_
  refine lv_aload_n hx hb dJ5_append_3fe6f_75 rfl (lv_at hl 0 rfl) ?_
  subst hQ
  refine W.widen (k := 1) (n := 200) (Nat.le_of_ble_eq_true rfl) (Nat.le_of_ble_eq_true rfl) ?_
  exact W.aret hx hb hr (Or.inl ⟨_, rfl⟩) (Or.inr ⟨_, rfl⟩) (gRr4 (c1 := (b_count + 1)) (c2 := b_at_v1) (c3 := b_cap_v1) (c4 := (upd b_bytes_v1 b_count.toNatClampNeg (vp_nar .byte (x1.toInt8.toInt32)))) (wf := _) hA0 hsz hw hP hD hS) hS.2.2 dJ5_append_3fe6f_76
abbrev rmJ4_append_cf468_g : Room := { frames := 6, cells := 1, slots := 200, locals := 445 }
set_option maxHeartbeats 4000000 in
set_option maxRecDepth 100000 in
theorem ctJ4_append_cf468_g (l : Launch) (g : GG) (t : GT) (a_sb : Nat → Nat) (sz : Nat) (b_ml : Int32) (b_count : Int32) (b_at : Nat → Nat) (b_cap : Nat) (b_bytes : Nat → Int32) (x1 : Int32) {post : Int32 → (Nat → Nat) → Nat → (Nat → Int32) → Prop} (hw : wpJ4_append_cf468_g x1 b_count b_at b_cap b_bytes post) :
    Met l yJ4_append_cf468 wsJ4_append_cf468 rmJ4_append_cf468_g (gPX g t sz (List.flatten [kSO g a_sb b_at b_ml b_count, kBa g b_at b_cap b_bytes]) [.ref (a_sb 0), .int x1]) (gQr4 post (fun u1 u2 u3 u4 => gB g (List.flatten [kSO g a_sb b_at b_ml b_count, kBa g b_at b_cap b_bytes]) sz (List.flatten [kSO g a_sb u2 b_ml u1, kBa g u2 u3 u4])) (va_A (List.flatten [kSO g a_sb b_at b_ml b_count, kBa g b_at b_cap b_bytes]) sz)) 1 200 (va_A (List.flatten [kSO g a_sb b_at b_ml b_count, kBa g b_at b_cap b_bytes]) sz) := by
  refine gOfX (cc := cJ4_append_cf468) (maxL := 2) (ret := (some (.object "java/lang/StringBuilder"))) (by decide) rfl (Nat.le_of_ble_eq_true rfl) ?_
  intro p e s m below meth c ls Q A hQ hx hb hr hml hts hown hlocks hE hA0 hsz hP hD hA hS hl hX
  have hl : lv_has ls 2 [(0, .ref (a_sb 0)), (1, .int x1)] := hl
  refine lv_aload_n hx hb dJ4_append_cf468_0 rfl (lv_at hl 0 rfl) ?_
  refine lv_iload_n hx hb dJ4_append_cf468_1 rfl (lv_at hl 1 rfl) ?_
  refine gCr4 (gRunSUX (As := [.int x1]) (rest := []) ⟨hx, hb, hml, hown, hts⟩ (ctJ5_append_3fe6f_g l g t a_sb _ b_ml b_count b_at b_cap b_bytes x1 hw) (va_cwSU 1 hts gJ4_append_cf468_J5_append_3fe6f_s50 rfl rfl rfl (by decide +kernel) ⟨Nat.le_of_ble_eq_true rfl, Nat.le_of_ble_eq_true rfl⟩) hE hX hS (gFree hD hS hA [0, 1]) (gSub hP [0, 1]) (gDSub hD [0, 1] rfl) 0 1 rfl rfl rfl rfl rfl hl.1 rfl (lv_room (Nat.le_of_ble_eq_true rfl)) dJ4_append_cf468_2 ⟨Nat.le_of_ble_eq_true rfl, Nat.le_of_ble_eq_true rfl⟩) hP hD hS hA [0, 1] rfl (fun _ _ _ _ => rfl) rfl (fun ra1 b_count_v1 b_at_v1 b_cap_v1 b_bytes_v1 H locs hw hP hD hS => ?_)
  have hP : va_P g.1 vwCl (List.flatten [kSO g a_sb b_at_v1 b_ml b_count_v1, kBa g b_at_v1 b_cap_v1 b_bytes_v1]) H := hP
  have hD : va_D A (List.flatten [kSO g a_sb b_at_v1 b_ml b_count_v1, kBa g b_at_v1 b_cap_v1 b_bytes_v1]) := hD
  refine lv_pop hx hb dJ4_append_cf468_5 rfl ?_
  refine lv_aload_n hx hb dJ4_append_cf468_6 rfl (lv_at hl 0 rfl) ?_
  subst hQ
  refine W.widen (k := 1) (n := 200) (Nat.le_of_ble_eq_true rfl) (Nat.le_of_ble_eq_true rfl) ?_
  exact W.aret hx hb hr (Or.inl ⟨_, rfl⟩) (Or.inr ⟨_, rfl⟩) (gRr4 (c1 := b_count_v1) (c2 := b_at_v1) (c3 := b_cap_v1) (c4 := b_bytes_v1) (wf := _) hA0 hsz hw hP hD hS) hS.2.2 dJ4_append_cf468_7
abbrev rmX6_type : Room := { frames := 7, cells := 1, slots := 200, locals := 467 }
set_option maxRecDepth 20000 in
theorem inX6_type_J4 : ∀ w ∈ wsJ40, w ∈ wsX6_type := by decide +kernel
set_option maxRecDepth 20000 in
theorem inX6_type_X3 : ∀ w ∈ wsX30, w ∈ wsX6_type := by decide +kernel
set_option maxRecDepth 20000 in
theorem inX6_type_X6 : ∀ w ∈ wsX60, w ∈ wsX6_type := by decide +kernel
set_option maxHeartbeats 4000000 in
set_option maxRecDepth 100000 in
theorem ctX6_type (l : Launch) (hl0 : l.stackTraces = false) (g : GG) (t : GT) (a_di : Nat → Nat) (a_pa : Nat → Nat) (a_to : Nat → Nat) (a_fto : Nat → Nat) (a_sto : Nat → Nat) (a_hi : Nat → Nat) (a_sc : Nat → Nat) (a_ob : Nat → Nat) (a_tb : Nat → Nat) (sz : Nat) (d_saved : Int32) (d_wrongPosition : Int32) (d_refusedCommand : Int32) (c_values : Nat → Int32) (c_at : Int32) (c_verb : Int32) (b_mlt : Int32) (b_countt : Int32) (b_att : Nat → Nat) (b_capt : Nat) (b_bytest : Nat → Int32) (x1 : Int32) {post : Int32 → Int32 → (Nat → Nat) → Nat → (Nat → Int32) → Prop} {px : String → Int32 → (Nat → Nat) → Nat → (Nat → Int32) → Prop} (hw : wpX6_type x1 b_countt b_att b_capt b_bytest post px) :
    vx_Met l yX6_type wsX6_type rmX6_type (gPX g t sz (List.flatten [kDi g a_di a_pa a_to a_fto a_sto a_hi a_sc a_ob d_saved d_wrongPosition d_refusedCommand, kSc g a_sc a_tb c_values c_at c_verb, kSO g a_tb b_att b_mlt b_countt, kBa g b_att b_capt b_bytest]) [.ref (a_di 0), .int x1]) (gQi4 post (fun u1 u2 u3 u4 => gB g (List.flatten [kDi g a_di a_pa a_to a_fto a_sto a_hi a_sc a_ob d_saved d_wrongPosition d_refusedCommand, kSc g a_sc a_tb c_values c_at c_verb, kSO g a_tb b_att b_mlt b_countt, kBa g b_att b_capt b_bytest]) sz (List.flatten [kDi g a_di a_pa a_to a_fto a_sto a_hi a_sc a_ob d_saved d_wrongPosition d_refusedCommand, kSc g a_sc a_tb c_values c_at c_verb, kSO g a_tb u2 b_mlt u1, kBa g u2 u3 u4])) (va_A (List.flatten [kDi g a_di a_pa a_to a_fto a_sto a_hi a_sc a_ob d_saved d_wrongPosition d_refusedCommand, kSc g a_sc a_tb c_values c_at c_verb, kSO g a_tb b_att b_mlt b_countt, kBa g b_att b_capt b_bytest]) sz)) (gXC4 px (fun u1 u2 u3 u4 => gB g (List.flatten [kDi g a_di a_pa a_to a_fto a_sto a_hi a_sc a_ob d_saved d_wrongPosition d_refusedCommand, kSc g a_sc a_tb c_values c_at c_verb, kSO g a_tb b_att b_mlt b_countt, kBa g b_att b_capt b_bytest]) sz (List.flatten [kDi g a_di a_pa a_to a_fto a_sto a_hi a_sc a_ob d_saved d_wrongPosition d_refusedCommand, kSc g a_sc a_tb c_values c_at c_verb, kSO g a_tb u2 b_mlt u1, kBa g u2 u3 u4])) (va_A (List.flatten [kDi g a_di a_pa a_to a_fto a_sto a_hi a_sc a_ob d_saved d_wrongPosition d_refusedCommand, kSc g a_sc a_tb c_values c_at c_verb, kSO g a_tb b_att b_mlt b_countt, kBa g b_att b_capt b_bytest]) sz)) 1 200 (va_A (List.flatten [kDi g a_di a_pa a_to a_fto a_sto a_hi a_sc a_ob d_saved d_wrongPosition d_refusedCommand, kSc g a_sc a_tb c_values c_at c_verb, kSO g a_tb b_att b_mlt b_countt, kBa g b_att b_capt b_bytest]) sz) := by
  refine gOfT (cc := cX6_type) (maxL := 2) (ret := (some .int)) (by decide) rfl (Nat.le_of_ble_eq_true rfl) ?_
  intro p e s m below meth c ls Q A hQ hx hb hr hml hts hown hlocks hE hA0 hsz hP hD hA hS hl hX hT
  have hl : lv_has ls 2 [(0, .ref (a_di 0)), (1, .int x1)] := hl
  refine lv_iload_n hx hb dX6_type_0 rfl (lv_at hl 1 rfl) ?_
  refine lv_bipush (v := 32) hx hb dX6_type_1 (by decide) ?_
  refine lv_icmp_lt (tgt := 12) hx hb dX6_type_3 (by decide) (fun c_3 => ?_) (fun c_3 => ?_)
  · have hw := hw.1 c_3
    obtain ⟨sa, hsa⟩ := hX.msg 24 rfl
    subst hQ
    exact vx_throwSW (own := RX6) (cls := "java/lang/IllegalArgumentException") (names := ["java/lang/RuntimeException", "java/lang/Exception"]) (ik := 78) (is := 330) (ic := 82) (A := A) hx hb hl0 hown (by decide +kernel) (by decide +kernel) (gW hts 1 (.classLink RX6 78 "java/lang/IllegalArgumentException") rfl) (gW hts 2 (.initialized "java/lang/IllegalArgumentException") rfl) hsa (hX.at (l := vx_atS RX6 82 "java/lang/IllegalArgumentException" ["java/lang/RuntimeException", "java/lang/Exception"]) hts (by decide +kernel)) (by decide +kernel) hX.1.2.1 hX.1.2.2.1 hS (hl.1.trans hml.symm) dX6_type_12 dX6_type_15 dX6_type_16 dX6_type_19 dX6_type_22 (fun x h => absurd h (fun h => hT x h)) (by decide) (Nat.le_of_ble_eq_true rfl) (Nat.le_of_ble_eq_true rfl) (Nat.le_of_ble_eq_true rfl) hlocks (fun t _ hz hk => ⟨b_countt, b_att, b_capt, b_bytest, hw, (gThrown hA0 hP hD hS hz hk).1, (gThrown hA0 hP hD hS hz hk).2⟩) hS.2.2 (Nat.le_of_ble_eq_true rfl) (Nat.le_of_ble_eq_true rfl)
  · have hw := hw.2 c_3
    refine lv_iload_n hx hb dX6_type_6 rfl (lv_at hl 1 rfl) ?_
    refine lv_bipush (v := 126) hx hb dX6_type_7 (by decide) ?_
    refine lv_icmp_le (tgt := 23) hx hb dX6_type_9 (by decide) (fun c_9 => ?_) (fun c_9 => ?_)
    · have hw := hw.1 c_9
      refine lv_aload_n hx hb dX6_type_23 rfl (lv_at hl 0 rfl) ?_
      refine va_get (D := g.1) (ci := 10) (v := .ref (a_sc 0)) (C := RX6) (T := TX6) (N := 10) hx hb hts inX6_type_X6 hown hE.1 hP 0 rfl rfl 5 (by decide) (gW hts 5 (.fieldLink RX6 41 "SnowDispatcher" "script" "LSnowDispatcher$Script;") rfl) (fun _ h9 => h9) rfl dX6_type_24 ?_
      refine va_get (D := g.1) (ci := 7) (v := .ref (a_tb 0)) (C := RX3) (T := TX3) (N := 4) hx hb hts inX6_type_X3 hown hE.1 hP 1 rfl rfl 0 (by decide) (gW hts 6 (.fieldLink RX6 332 "SnowDispatcher$Script" "text" "Ljava/lang/StringBuilder;") rfl) (fun _ h9 => h9) rfl dX6_type_27 ?_
      refine gCi0 (gRunV (As := []) (rest := []) ⟨hx, hb, hml, hown, hts⟩ (ctJ4_length_8abf5 l g a_tb b_att _ b_mlt b_countt hw) (cwV 0 hts gX6_type_J4_length_8abf5 rfl rfl rfl (by decide +kernel) ⟨Nat.le_of_ble_eq_true rfl, Nat.le_of_ble_eq_true rfl⟩) hE (gSub hP [2]) (gDSub hD [2] rfl) 0 1 rfl rfl rfl rfl rfl hl.1 rfl (lv_room (Nat.le_of_ble_eq_true rfl)) dX6_type_30 ⟨Nat.le_of_ble_eq_true rfl, Nat.le_of_ble_eq_true rfl⟩) hP hD hS hA [2] rfl rfl rfl (fun r1 H locs hw hP hD hS => ?_)
      have hP : va_P g.1 vwCl (List.flatten [kDi g a_di a_pa a_to a_fto a_sto a_hi a_sc a_ob d_saved d_wrongPosition d_refusedCommand, kSc g a_sc a_tb c_values c_at c_verb, kSO g a_tb b_att b_mlt b_countt, kBa g b_att b_capt b_bytest]) H := hP
      have hD : va_D A (List.flatten [kDi g a_di a_pa a_to a_fto a_sto a_hi a_sc a_ob d_saved d_wrongPosition d_refusedCommand, kSc g a_sc a_tb c_values c_at c_verb, kSO g a_tb b_att b_mlt b_countt, kBa g b_att b_capt b_bytest]) := hD
      refine lv_bipush (v := 60) hx hb dX6_type_33 (by decide) ?_
      refine lv_icmp_lt (tgt := 49) hx hb dX6_type_35 (by decide) (fun c_35 => ?_) (fun c_35 => ?_)
      · have hw := hw.1 c_35
        refine lv_aload_n hx hb dX6_type_49 rfl (lv_at hl 0 rfl) ?_
        refine va_get (D := g.1) (ci := 10) (v := .ref (a_sc 0)) (C := RX6) (T := TX6) (N := 10) hx hb hts inX6_type_X6 hown hE.1 hP 0 rfl rfl 5 (by decide) (gW hts 5 (.fieldLink RX6 41 "SnowDispatcher" "script" "LSnowDispatcher$Script;") rfl) (fun _ h9 => h9) rfl dX6_type_50 ?_
        refine va_get (D := g.1) (ci := 7) (v := .ref (a_tb 0)) (C := RX3) (T := TX3) (N := 4) hx hb hts inX6_type_X3 hown hE.1 hP 1 rfl rfl 0 (by decide) (gW hts 6 (.fieldLink RX6 332 "SnowDispatcher$Script" "text" "Ljava/lang/StringBuilder;") rfl) (fun _ h9 => h9) rfl dX6_type_53 ?_
        refine lv_iload_n hx hb dX6_type_56 rfl (lv_at hl 1 rfl) ?_
        refine gCr4 (gRunVX (As := [.int x1]) (rest := []) ⟨hx, hb, hml, hown, hts⟩ (ctJ4_append_cf468_g l g t a_tb _ b_mlt b_countt b_att b_capt b_bytest x1 hw) (cwV 1 hts gX6_type_J4_append_cf468 rfl rfl rfl (by decide +kernel) ⟨Nat.le_of_ble_eq_true rfl, Nat.le_of_ble_eq_true rfl⟩) hE hX hS (gFree hD hS hA [2, 3]) (gSub hP [2, 3]) (gDSub hD [2, 3] rfl) 0 1 rfl rfl rfl rfl rfl hl.1 rfl (lv_room (Nat.le_of_ble_eq_true rfl)) dX6_type_57 ⟨Nat.le_of_ble_eq_true rfl, Nat.le_of_ble_eq_true rfl⟩) hP hD hS hA [2, 3] rfl (fun _ _ _ _ => rfl) rfl (fun ra2 b_countt_v2 b_att_v2 b_capt_v2 b_bytest_v2 H locs hw hP hD hS => ?_)
        have hP : va_P g.1 vwCl (List.flatten [kDi g a_di a_pa a_to a_fto a_sto a_hi a_sc a_ob d_saved d_wrongPosition d_refusedCommand, kSc g a_sc a_tb c_values c_at c_verb, kSO g a_tb b_att_v2 b_mlt b_countt_v2, kBa g b_att_v2 b_capt_v2 b_bytest_v2]) H := hP
        have hD : va_D A (List.flatten [kDi g a_di a_pa a_to a_fto a_sto a_hi a_sc a_ob d_saved d_wrongPosition d_refusedCommand, kSc g a_sc a_tb c_values c_at c_verb, kSO g a_tb b_att_v2 b_mlt b_countt_v2, kBa g b_att_v2 b_capt_v2 b_bytest_v2]) := hD
        refine lv_pop hx hb dX6_type_60 rfl ?_
        refine lv_aload_n hx hb dX6_type_61 rfl (lv_at hl 0 rfl) ?_
        refine va_get (D := g.1) (ci := 10) (v := .ref (a_sc 0)) (C := RX6) (T := TX6) (N := 10) hx hb hts inX6_type_X6 hown hE.1 hP 0 rfl rfl 5 (by decide) (gW hts 5 (.fieldLink RX6 41 "SnowDispatcher" "script" "LSnowDispatcher$Script;") rfl) (fun _ h9 => h9) rfl dX6_type_62 ?_
        refine va_get (D := g.1) (ci := 7) (v := .ref (a_tb 0)) (C := RX3) (T := TX3) (N := 4) hx hb hts inX6_type_X3 hown hE.1 hP 1 rfl rfl 0 (by decide) (gW hts 6 (.fieldLink RX6 332 "SnowDispatcher$Script" "text" "Ljava/lang/StringBuilder;") rfl) (fun _ h9 => h9) rfl dX6_type_65 ?_
        refine gCi0 (gRunV (As := []) (rest := []) ⟨hx, hb, hml, hown, hts⟩ (ctJ4_length_8abf5 l g a_tb b_att_v2 _ b_mlt b_countt_v2 hw) (cwV 0 hts gX6_type_J4_length_8abf5 rfl rfl rfl (by decide +kernel) ⟨Nat.le_of_ble_eq_true rfl, Nat.le_of_ble_eq_true rfl⟩) hE (gSub hP [2]) (gDSub hD [2] rfl) 0 1 rfl rfl rfl rfl rfl hl.1 rfl (lv_room (Nat.le_of_ble_eq_true rfl)) dX6_type_68 ⟨Nat.le_of_ble_eq_true rfl, Nat.le_of_ble_eq_true rfl⟩) hP hD hS hA [2] rfl rfl rfl (fun r3 H locs hw hP hD hS => ?_)
        have hP : va_P g.1 vwCl (List.flatten [kDi g a_di a_pa a_to a_fto a_sto a_hi a_sc a_ob d_saved d_wrongPosition d_refusedCommand, kSc g a_sc a_tb c_values c_at c_verb, kSO g a_tb b_att_v2 b_mlt b_countt_v2, kBa g b_att_v2 b_capt_v2 b_bytest_v2]) H := hP
        have hD : va_D A (List.flatten [kDi g a_di a_pa a_to a_fto a_sto a_hi a_sc a_ob d_saved d_wrongPosition d_refusedCommand, kSc g a_sc a_tb c_values c_at c_verb, kSO g a_tb b_att_v2 b_mlt b_countt_v2, kBa g b_att_v2 b_capt_v2 b_bytest_v2]) := hD
        subst hQ
        refine vx_ret ?_
        refine W.widen (k := 1) (n := 200) (Nat.le_of_ble_eq_true rfl) (Nat.le_of_ble_eq_true rfl) ?_
        exact W.iret hx hb hr (gRi4 (c1 := b_countt_v2) (c2 := b_att_v2) (c3 := b_capt_v2) (c4 := b_bytest_v2) (wf := _) hA0 hsz hw hP hD hS) hS.2.2 dX6_type_71
      · have hw := hw.2 c_35
        obtain ⟨sa, hsa⟩ := hX.msg 25 rfl
        subst hQ
        exact vx_throwSW (own := RX6) (cls := "java/lang/IllegalStateException") (names := ["java/lang/RuntimeException", "java/lang/Exception"]) (ik := 83) (is := 335) (ic := 87) (A := A) hx hb hl0 hown (by decide +kernel) (by decide +kernel) (gW hts 3 (.classLink RX6 83 "java/lang/IllegalStateException") rfl) (gW hts 4 (.initialized "java/lang/IllegalStateException") rfl) hsa (hX.at (l := vx_atS RX6 87 "java/lang/IllegalStateException" ["java/lang/RuntimeException", "java/lang/Exception"]) hts (by decide +kernel)) (by decide +kernel) hX.1.2.1 hX.1.2.2.1 hS (hl.1.trans hml.symm) dX6_type_38 dX6_type_41 dX6_type_42 dX6_type_45 dX6_type_48 (fun x h => absurd h (fun h => hT x h)) (by decide) (Nat.le_of_ble_eq_true rfl) (Nat.le_of_ble_eq_true rfl) (Nat.le_of_ble_eq_true rfl) hlocks (fun t _ hz hk => ⟨b_countt, b_att, b_capt, b_bytest, hw, (gThrown hA0 hP hD hS hz hk).1, (gThrown hA0 hP hD hS hz hk).2⟩) hS.2.2 (Nat.le_of_ble_eq_true rfl) (Nat.le_of_ble_eq_true rfl)
    · have hw := hw.2 c_9
      obtain ⟨sa, hsa⟩ := hX.msg 24 rfl
      subst hQ
      exact vx_throwSW (own := RX6) (cls := "java/lang/IllegalArgumentException") (names := ["java/lang/RuntimeException", "java/lang/Exception"]) (ik := 78) (is := 330) (ic := 82) (A := A) hx hb hl0 hown (by decide +kernel) (by decide +kernel) (gW hts 1 (.classLink RX6 78 "java/lang/IllegalArgumentException") rfl) (gW hts 2 (.initialized "java/lang/IllegalArgumentException") rfl) hsa (hX.at (l := vx_atS RX6 82 "java/lang/IllegalArgumentException" ["java/lang/RuntimeException", "java/lang/Exception"]) hts (by decide +kernel)) (by decide +kernel) hX.1.2.1 hX.1.2.2.1 hS (hl.1.trans hml.symm) dX6_type_12 dX6_type_15 dX6_type_16 dX6_type_19 dX6_type_22 (fun x h => absurd h (fun h => hT x h)) (by decide) (Nat.le_of_ble_eq_true rfl) (Nat.le_of_ble_eq_true rfl) (Nat.le_of_ble_eq_true rfl) hlocks (fun t _ hz hk => ⟨b_countt, b_att, b_capt, b_bytest, hw, (gThrown hA0 hP hD hS hz hk).1, (gThrown hA0 hP hD hS hz hk).2⟩) hS.2.2 (Nat.le_of_ble_eq_true rfl) (Nat.le_of_ble_eq_true rfl)
