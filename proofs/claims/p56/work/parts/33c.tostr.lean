/-! by program (wip/p56/gen/str2.py) -/
abbrev rmJ7_checkLength_df160 : Room := { frames := 1, cells := 0, slots := 0, locals := 100 }
set_option maxHeartbeats 4000000 in
set_option maxRecDepth 100000 in
theorem ctJ7_checkLength_df160 (l : Launch) (g : GG) (sz : Nat) (x0 : Int32) (x1 : Int32) {post : Prop} (hw : wpJ7_checkLength_df160 x0 x1 post) :
    Met l yJ7_checkLength_df160 wsJ7_checkLength_df160 rmJ7_checkLength_df160 (gPc g sz (List.flatten []) [.int x0, .int x1]) (gQv0 post (gB g (List.flatten []) sz (List.flatten [])) (va_A (List.flatten []) sz)) 0 0 (va_A (List.flatten []) sz) := by
  refine gOf (cc := cJ7_checkLength_df160) (maxL := 2) (ret := none) (by decide) rfl (Nat.le_of_ble_eq_true rfl) ?_
  intro p e s m below meth c ls Q A hQ hx hb hr hml hts hown hlocks hE hA0 hsz hP hD hA hS hl
  have hl : lv_has ls 2 [(0, .int x0), (1, .int x1)] := hl
  refine lv_iload_n hx hb dJ7_checkLength_df160_0 rfl (lv_at hl 1 rfl) ?_
  refine lv_iload_n hx hb dJ7_checkLength_df160_1 rfl (lv_at hl 0 rfl) ?_
  refine lv_icmp_ge (tgt := 37) hx hb dJ7_checkLength_df160_2 (by decide) (fun c_2 => ?_) (fun c_2 => (hw.2 c_2).elim)
  have hw := hw.1 c_2
  subst hQ
  exact W.vret hx hb hr (gRv0 (wf := _) hA0 hsz hw hP hD hS) hS.2.2 dJ7_checkLength_df160_37
abbrev rmJ5_getValue_6d5f1 : Room := { frames := 1, cells := 0, slots := 0, locals := 100 }
set_option maxRecDepth 20000 in
theorem inJ5_getValue_6d5f1_J4 : ∀ w ∈ wsJ40, w ∈ wsJ5_getValue_6d5f1 := by decide +kernel
set_option maxHeartbeats 4000000 in
set_option maxRecDepth 100000 in
theorem ctJ5_getValue_6d5f1 (l : Launch) (g : GG) (a_sb : Nat → Nat) (sz : Nat) (b_ml b_count : Int32) (b_at : Nat → Nat) (b_cap : Nat) (b_bytes : Nat → Int32) :
    Met l yJ5_getValue_6d5f1 wsJ5_getValue_6d5f1 rmJ5_getValue_6d5f1 (gPc g sz (List.flatten [kSO g a_sb b_at b_ml b_count, kBa g b_at b_cap b_bytes]) [.ref (a_sb 0)]) (va_Qr (fun _ : Unit => True) (fun _ a t => a = b_at 0 ∧ gB g (List.flatten [kSO g a_sb b_at b_ml b_count, kBa g b_at b_cap b_bytes]) sz (List.flatten [kSO g a_sb b_at b_ml b_count, kBa g b_at b_cap b_bytes]) t) (va_A (List.flatten [kSO g a_sb b_at b_ml b_count, kBa g b_at b_cap b_bytes]) sz)) 0 0 (va_A (List.flatten [kSO g a_sb b_at b_ml b_count, kBa g b_at b_cap b_bytes]) sz) := by
  refine gOf (cc := cJ5_getValue_6d5f1) (maxL := 1) (ret := (some (.array .byte))) (by decide) rfl (Nat.le_of_ble_eq_true rfl) ?_
  intro p e s m below meth c ls Q A hQ hx hb hr hml hts hown hlocks hE hA0 hsz hP hD hA hS hl
  have hl : lv_has ls 1 [(0, .ref (a_sb 0))] := hl
  refine lv_aload_n hx hb dJ5_getValue_6d5f1_0 rfl (lv_at hl 0 rfl) ?_
  refine va_get (D := g.1) (ci := 1) (v := .ref (b_at 0)) (C := RJ4) (T := TJ4) (N := 4) hx hb hts inJ5_getValue_6d5f1_J4 hown hE.1 hP 0 rfl rfl 0 (by decide) (gW hts 1 (.fieldLink RJ5 15 "java/lang/AbstractStringBuilder" "value" "[B") rfl) (fun _ h9 => h9) rfl dJ5_getValue_6d5f1_1 ?_
  subst hQ
  exact W.aret hx hb hr (Or.inr ⟨_, rfl⟩) (Or.inr ⟨_, rfl⟩) (fun t ht _ => ⟨⟨(), b_at 0, rfl, trivial, rfl, by rw [ht]; exact hP, by rw [← hA0]; exact hD⟩, by rw [← hA0]; exact hS.F ht⟩) hS.2.2 dJ5_getValue_6d5f1_4
abbrev rmJ7_copyOfRangeByte_39247 : Room := { frames := 2, cells := 1, slots := 200, locals := 122 }
set_option maxHeartbeats 4000000 in
set_option maxRecDepth 100000 in
/-- the first n bytes, anew -/
theorem ctJ7_copyOfRangeByte_39247 (l : Launch) (g : GG) (sz : Nat) (b_at : Nat → Nat) (b_cap : Nat) (b_bytes : Nat → Int32) (n : Nat) (hn : n ≤ b_cap) (hn2 : b_cap ≤ 200) (hf : ∀ i, i < b_cap → fits .byte (.int (b_bytes i)) = true) :
    Met l yJ7_copyOfRangeByte_39247 wsJ7_copyOfRangeByte_39247 rmJ7_copyOfRangeByte_39247 (gPc g sz (List.flatten [kBa g b_at b_cap b_bytes]) [.ref (b_at 0), .int 0, .int (nI n)]) (va_Qr (fun _ : Unit => True) (fun _ a t => gB g (List.flatten [kBa g b_at b_cap b_bytes]) sz (List.flatten [kBa g b_at b_cap b_bytes, kBa g (fun _ => a) n (va_cpy b_bytes (fun _ => 0) 0 0 n)]) t) (va_A (List.flatten [kBa g b_at b_cap b_bytes]) sz)) 1 200 (va_A (List.flatten [kBa g b_at b_cap b_bytes]) sz) := by
  refine gOf (cc := cJ7_copyOfRangeByte_39247) (maxL := 5) (ret := (some (.array .byte))) (by decide) rfl (Nat.le_of_ble_eq_true rfl) ?_
  intro p e s m below meth c ls Q A hQ hx hb hr hml hts hown hlocks hE hA0 hsz hP hD hA hS hl
  have hl : lv_has ls 5 [(0, .ref (b_at 0)), (1, .int 0), (2, .int (nI n))] := hl
  refine lv_iload_n hx hb dJ7_copyOfRangeByte_39247_0 rfl (lv_at hl 1 rfl) ?_
  refine lv_iload_n hx hb dJ7_copyOfRangeByte_39247_1 rfl (lv_at hl 2 rfl) ?_
  have hw : wpJ7_checkLength_df160 0 (nI n) True := by
    unfold wpJ7_checkLength_df160
    exact ⟨fun _ => trivial, fun h => h (nI_pos' (by omega))⟩
  refine gCv0 (gRunS (As := [.int 0, .int (nI n)]) (rest := []) ⟨hx, hb, hml, hown, hts⟩ (ctJ7_checkLength_df160 l g _ 0 (nI n) hw) (va_cwS 2 hts gJ7_copyOfRangeByte_39247_J7_checkLength_df160 rfl rfl rfl (by decide +kernel) ⟨Nat.le_of_ble_eq_true rfl, Nat.le_of_ble_eq_true rfl⟩) hE (gSub (bs := [kBa g b_at b_cap b_bytes]) hP []) (gDSub (bs := [kBa g b_at b_cap b_bytes]) hD [] rfl) rfl rfl hl.1 rfl (lv_room (Nat.le_of_ble_eq_true rfl)) dJ7_copyOfRangeByte_39247_2 ⟨Nat.le_of_ble_eq_true rfl, Nat.le_of_ble_eq_true rfl⟩) hP hD hS hA [] rfl rfl rfl (fun H locs hw hP hD hS => ?_)
  have hP : va_P g.1 vwCl (List.flatten [kBa g b_at b_cap b_bytes]) H := hP
  have hD : va_D A (List.flatten [kBa g b_at b_cap b_bytes]) := hD
  refine lv_iload_n hx hb dJ7_copyOfRangeByte_39247_5 rfl (lv_at hl 2 rfl) ?_
  refine lv_iload_n hx hb dJ7_copyOfRangeByte_39247_6 rfl (lv_at hl 1 rfl) ?_
  refine lv_isub hx hb dJ7_copyOfRangeByte_39247_7 ?_
  refine W.eq (g2 := F0 m 8 ls [.int (nI n)]) (by rw [show nI n - 0 = nI n by rw [show (0 : Int32) = nI 0 from rfl, pk_sub (Nat.zero_le n), Nat.sub_zero]]) ?_
  refine lv_istore_n (lv' := [(3, .int (nI n)), (0, .ref (b_at 0)), (1, .int 0), (2, .int (nI n))]) hx hb dJ7_copyOfRangeByte_39247_8 rfl hl (by decide) rfl (fun ls hl => ?_)
  refine lv_iload_n hx hb dJ7_copyOfRangeByte_39247_9 rfl (lv_at hl 0 rfl) ?_
  refine va_newa (atype := .byte) (N' := n) (a0 := (n, .inl (fun _ => 0))) hx hb (gW hts 1 (.arrayClass .byte) rfl) rfl hE.1 hP hD hS hA (fun _ => rfl) (nI_pos (by omega)) (nI_clamp (by omega)) (by show n * 1 ≤ 536870912; omega) (Nat.le_of_ble_eq_true rfl) (by show 0 + 0 + n ≤ 200; omega) dJ7_copyOfRangeByte_39247_10 (fun q cA H hK hP hD hS => ?_)
  have hcA : cA = g.2 3 := gByte hE hK (k := 3) rfl Iff.rfl Iff.rfl
  subst hcA
  have hP : va_P g.1 vwCl (List.flatten [kBa g b_at b_cap b_bytes, kBa g (fun _ => q) n (fun _ => 0)]) H := hP
  have hD : va_D A (List.flatten [kBa g b_at b_cap b_bytes, kBa g (fun _ => q) n (fun _ => 0)]) := hD
  refine lv_astore (lv' := [(4, .ref q), (3, .int (nI n)), (0, .ref (b_at 0)), (1, .int 0), (2, .int (nI n))]) hx hb dJ7_copyOfRangeByte_39247_12 hl (by decide) rfl (fun ls hl => ?_)
  refine lv_aload_n hx hb dJ7_copyOfRangeByte_39247_14 rfl (lv_at hl 2 rfl) ?_
  refine lv_iload_n hx hb dJ7_copyOfRangeByte_39247_15 rfl (lv_at hl 3 rfl) ?_
  refine lv_aload hx hb dJ7_copyOfRangeByte_39247_16 (lv_at hl 0 rfl) ?_
  refine lv_iconst (v := 0) hx hb dJ7_copyOfRangeByte_39247_18 (by decide) ?_
  refine lv_aload_n hx hb dJ7_copyOfRangeByte_39247_19 rfl (lv_at hl 2 rfl) ?_
  refine va_alen hx hb hE.1 hP 0 3 rfl rfl rfl dJ7_copyOfRangeByte_39247_20 ?_
  refine lv_iload_n hx hb dJ7_copyOfRangeByte_39247_21 rfl (lv_at hl 3 rfl) ?_
  refine lv_isub hx hb dJ7_copyOfRangeByte_39247_22 ?_
  refine lv_iload_n hx hb dJ7_copyOfRangeByte_39247_23 rfl (lv_at hl 1 rfl) ?_
  refine va_mmin hx hb (hml.trans hl.1.symm) hown (gW hts 2 (.methodLink RJ7 304 Lib.Math.min.name) rfl) (gW hts 3 (.static Lib.Math.min.name) rfl) (gW hts 4 (.initialized "java/lang/Math") rfl) (gW hts 5 (.code Lib.Math.min.name Lib.Math.min.code 2 (some .int)) rfl) (Nat.le_of_ble_eq_true rfl) (Nat.le_of_ble_eq_true rfl) (Nat.le_of_ble_eq_true rfl) (by show 0 + 0 + n ≤ 200; omega) dJ7_copyOfRangeByte_39247_24 ?_
  have ec : (Int32.ofNat b_cap : Int32) - 0 = nI b_cap := by rw [show (0 : Int32) = nI 0 from rfl]; exact (pk_sub (Nat.zero_le b_cap)).trans (by rw [Nat.sub_zero])
  refine W.eq (g2 := F0 m 27 ls [.int (nI n), .int 0, .ref q, .int 0, .ref (b_at 0)]) (by
    rw [ec]
    by_cases z : n < b_cap
    · rw [if_pos (nI_lt z (by omega))]
    · rw [if_neg (nI_nlt (by omega) (by omega)), show b_cap = n by omega]) ?_
  have e0 : (0 : Int32).toNatClampNeg = 0 := sb_cl0
  have e1 : (nI n).toNatClampNeg = n := nI_clamp (by omega)
  refine va_copyi (f := b_bytes) (g := fun _ => 0) hx hb (hml.trans hl.1.symm) hown (gW hts 6 (.methodLink RJ7 150 arraycopyName) rfl) (gW hts 7 (.native arraycopyName) rfl) (gW hts 8 (.static arraycopyName) rfl) (gW hts 9 (.initialized "java/lang/System") rfl) hE.1 hP hD hS 0 1 3 3 rfl rfl rfl rfl rfl (by decide) (by decide) (nI_pos (by omega)) (by rw [e0, e1]; omega) (by rw [e0, e1]; omega) (fun i hi => by rw [e0, Nat.zero_add]; exact hf i (by rw [e1] at hi; omega)) (Nat.le_of_ble_eq_true rfl) (by decide +kernel) dJ7_copyOfRangeByte_39247_27 (fun H locs hP hD hS => ?_)
  rw [e0, e1] at hP hD
  have hP : va_P g.1 vwCl (List.flatten [kBa g b_at b_cap b_bytes, kBa g (fun _ => q) n (va_cpy b_bytes (fun _ => 0) 0 0 n)]) H := hP
  have hD : va_D A (List.flatten [kBa g b_at b_cap b_bytes, kBa g (fun _ => q) n (va_cpy b_bytes (fun _ => 0) 0 0 n)]) := hD
  refine lv_aload hx hb dJ7_copyOfRangeByte_39247_30 (lv_at hl 0 rfl) ?_
  subst hQ
  refine W.widen (k := 1) (n := 200) (Nat.le_of_ble_eq_true rfl) (by show 0 + 0 + n ≤ 200; omega) ?_
  exact W.aret hx hb hr (Or.inr ⟨_, rfl⟩) (Or.inr ⟨_, rfl⟩) (fun t ht _ => ⟨⟨(), q, rfl, trivial, by rw [ht]; exact hP, by rw [← hA0]; exact hD⟩, by rw [← hA0]; exact hS.F ht⟩) hS.2.2 dJ7_copyOfRangeByte_39247_32
abbrev rmJ7_copyOfRange_39247 : Room := { frames := 3, cells := 1, slots := 200, locals := 147 }
set_option maxHeartbeats 4000000 in
set_option maxRecDepth 100000 in
theorem ctJ7_copyOfRange_39247 (l : Launch) (g : GG) (t : GT) (sz : Nat) (b_at : Nat → Nat) (b_cap : Nat) (b_bytes : Nat → Int32) (n : Nat) (hn : n ≤ b_cap) (hn2 : b_cap ≤ 200) (hf : ∀ i, i < b_cap → fits .byte (.int (b_bytes i)) = true) :
    Met l yJ7_copyOfRange_39247 wsJ7_copyOfRange_39247 rmJ7_copyOfRange_39247 (gPL g t sz (List.flatten [kBa g b_at b_cap b_bytes]) [.ref (b_at 0), .int 0, .int (nI n)]) (va_Qr (fun f : Nat → Int32 => ∀ i, i < n → f i = b_bytes i) (fun f a t => gB g (List.flatten [kBa g b_at b_cap b_bytes]) sz (List.flatten [kBa g b_at b_cap b_bytes, kBa g (fun _ => a) n f]) t) (va_A (List.flatten [kBa g b_at b_cap b_bytes]) sz)) 1 200 (va_A (List.flatten [kBa g b_at b_cap b_bytes]) sz) := by
  refine gOfL (cc := cJ7_copyOfRange_39247) (maxL := 3) (ret := (some (.array .byte))) (by decide) rfl (Nat.le_of_ble_eq_true rfl) ?_
  intro p e s m below meth c ls Q A hQ hx hb hr hml hts hown hlocks hE hA0 hsz hP hD hA hS hl hX hN
  have hl : lv_has ls 3 [(0, .ref (b_at 0)), (1, .int 0), (2, .int (nI n))] := hl
  have hP : va_P g.1 vwCl (List.flatten [kBa g b_at b_cap b_bytes]) s.heap := hP
  refine lv_iload_n hx hb dJ7_copyOfRange_39247_0 rfl (lv_at hl 1 rfl) ?_
  refine lv_if_ne (tgt := 10) hx hb dJ7_copyOfRange_39247_1 (by decide) (fun h => absurd rfl h) (fun _ => ?_)
  refine lv_iload_n hx hb dJ7_copyOfRange_39247_4 rfl (lv_at hl 2 rfl) ?_
  refine lv_aload_n hx hb dJ7_copyOfRange_39247_5 rfl (lv_at hl 0 rfl) ?_
  refine va_alen hx hb hE.1 hP 0 3 rfl rfl rfl dJ7_copyOfRange_39247_6 ?_
  refine lv_icmp_eq (tgt := 17) hx hb dJ7_copyOfRange_39247_7 (by decide) (fun h => ?_) (fun h => ?_)
  · have e : n = b_cap := (nI_eq (by omega) (by omega)).mp h
    subst e
    refine lv_aload_n hx hb dJ7_copyOfRange_39247_17 rfl (lv_at hl 0 rfl) ?_
    refine va_clone (x := (n, .inl b_bytes)) (ty := .byte) hx hb (hml.trans hl.1.symm) hown (gW hts 1 (.methodLink RJ7 310 ⟨"[B", "clone", "()Ljava/lang/Object;"⟩) rfl) (gW hts 2 (.sameMethod "[B" "java/lang/Object" "clone" "()Ljava/lang/Object;") rfl) (gW hts 3 (.native ⟨"java/lang/Object", "clone", "()Ljava/lang/Object;"⟩) rfl) (gW hts 4 (.instanceMethod ⟨"java/lang/Object", "clone", "()Ljava/lang/Object;"⟩) rfl) (gW hts 5 (.selects "[B" ⟨"[B", "clone", "()Ljava/lang/Object;"⟩ ⟨"java/lang/Object", "clone", "()Ljava/lang/Object;"⟩) rfl) hN.2.2 hE.1 hP hD hS hA 0 3 rfl rfl ((hE.1.2 3 _ rfl).2) (fun i v hv => ?_) (Nat.le_of_ble_eq_true rfl) (Nat.le_of_ble_eq_true rfl) (Nat.le_of_ble_eq_true rfl) (by show 0 + n ≤ 200; omega) dJ7_copyOfRange_39247_18 (fun q H hK hP hD hS => ?_)
    · have hsz9 : (vp_cell (g.2 3) (n, .inl b_bytes)).slots.size = n := by rw [vp_cell_i, arrV_size]
      have hi : i < n := by
        have := (Array.getElem?_eq_some_iff.mp hv).1
        rw [hsz9] at this
        exact this
      have : (vp_cell (g.2 3) (n, .inl b_bytes)).slots[i]? = some (.int (b_bytes i)) := by rw [vp_cell_i]; exact arrV_read _ _ hi
      rw [this] at hv
      cases hv
      exact hf i hi
    have hP : va_P g.1 vwCl (List.flatten [kBa g b_at n b_bytes, kBa g (fun _ => q) n b_bytes]) H := hP
    have hD : va_D A (List.flatten [kBa g b_at n b_bytes, kBa g (fun _ => q) n b_bytes]) := hD
    refine va_castA hx hb hown (gW hts 6 (.classLink RJ7 311 "[B") rfl) hP 1 rfl ((hE.1.2 3 _ rfl).2) dJ7_copyOfRange_39247_21 ?_
    subst hQ
    refine W.widen (k := 1) (n := 200) (Nat.le_of_ble_eq_true rfl) (by show 0 + n ≤ 200; omega) ?_
    exact W.aret hx hb hr (Or.inr ⟨_, rfl⟩) (Or.inr ⟨_, rfl⟩) (fun t ht _ => ⟨⟨b_bytes, q, rfl, fun _ _ => rfl, by rw [ht]; exact hP, by rw [← hA0]; exact hD⟩, by rw [← hA0]; exact hS.F ht⟩) hS.2.2 dJ7_copyOfRange_39247_24
  · refine lv_aload_n hx hb dJ7_copyOfRange_39247_10 rfl (lv_at hl 0 rfl) ?_
    refine lv_iload_n hx hb dJ7_copyOfRange_39247_11 rfl (lv_at hl 1 rfl) ?_
    refine lv_iload_n hx hb dJ7_copyOfRange_39247_12 rfl (lv_at hl 2 rfl) ?_
    have hF := gFree (bs := [kBa g b_at b_cap b_bytes]) hD hS hA [0]
    refine va_callr (gRunS (As := [.ref (b_at 0), .int 0, .int (nI n)]) (rest := []) ⟨hx, hb, hml, hown, hts⟩ (ctJ7_copyOfRangeByte_39247 l g _ b_at b_cap b_bytes n hn hn2 hf) (va_cwS 3 hts gJ7_copyOfRange_39247_J7_copyOfRangeByte_39247 rfl rfl rfl (by decide +kernel) ⟨Nat.le_of_ble_eq_true rfl, Nat.le_of_ble_eq_true rfl⟩) hE (gSub (bs := [kBa g b_at b_cap b_bytes]) hP [0]) (gDSub (bs := [kBa g b_at b_cap b_bytes]) hD [0] rfl) rfl rfl hl.1 rfl (lv_room (Nat.le_of_ble_eq_true rfl)) dJ7_copyOfRange_39247_13 ⟨Nat.le_of_ble_eq_true rfl, Nat.le_of_ble_eq_true rfl⟩) hS (fun q _ h => hF q h) hF (fun u ra t9 H1 locs ht hvm hw0 hB hz1 hk1 hS => ?_)
    obtain ⟨hP, hD⟩ := hB
    rw [ht] at hP
    subst hQ
    exact W.aret hx hb hr (Or.inr ⟨_, rfl⟩) (Or.inr ⟨_, rfl⟩) (fun t ht _ => ⟨⟨va_cpy b_bytes (fun _ => 0) 0 0 n, ra, rfl, fun i hi => by rw [pk_cpy_in (Nat.zero_le i) (by omega), Nat.sub_zero, Nat.zero_add], by rw [ht]; exact hP, by rw [hsz]; exact hD⟩, by rw [← hA0]; exact hS.F ht⟩) hS.2.2 dJ7_copyOfRange_39247_16
def kSw (g : GG) (a at_ : Nat → Nat) (n : Nat) (f : Nat → Int32) : va_W := List.flatten [kSo g a at_, kBa g at_ n f]
abbrev rmJ0_init_db425 : Room := { frames := 4, cells := 1, slots := 200, locals := 170 }
set_option maxRecDepth 20000 in
theorem inJ0_init_db425_J0 : ∀ w ∈ wsJ00, w ∈ wsJ0_init_db425 := by decide +kernel
set_option maxHeartbeats 4000000 in
set_option maxRecDepth 100000 in
theorem ctJ0_init_db425 (l : Launch) (g : GG) (t : GT) (h0 : Nat) (a_sb : Nat → Nat) (sz : Nat) (b_ml b_count : Int32) (b_at : Nat → Nat) (b_cap : Nat) (b_bytes : Nat → Int32) (n : Nat) (hcn : b_count = nI n) (hn : n ≤ b_cap) (hn2 : b_cap ≤ 200) (hf : ∀ i, i < b_cap → fits .byte (.int (b_bytes i)) = true) :
    Met l yJ0_init_db425 wsJ0_init_db425 rmJ0_init_db425 (gPL g t sz (List.flatten [[(h0, .inr (0, [.null, .int 0, .int 0, .int 0]))], kSO g a_sb b_at b_ml b_count, kBa g b_at b_cap b_bytes]) [.ref h0, .ref (a_sb 0), .null]) (va_Qv (fun w : Nat × (Nat → Int32) => ∀ i, i < n → w.2 i = b_bytes i) (fun w t => gB g (List.flatten [[(h0, .inr (0, [.null, .int 0, .int 0, .int 0]))], kSO g a_sb b_at b_ml b_count, kBa g b_at b_cap b_bytes]) sz (List.flatten [kSw g (fun _ => h0) (fun _ => w.1) n w.2, kSO g a_sb b_at b_ml b_count, kBa g b_at b_cap b_bytes]) t) (va_A (List.flatten [[(h0, .inr (0, [.null, .int 0, .int 0, .int 0]))], kSO g a_sb b_at b_ml b_count, kBa g b_at b_cap b_bytes]) sz)) 1 200 (va_A (List.flatten [[(h0, .inr (0, [.null, .int 0, .int 0, .int 0]))], kSO g a_sb b_at b_ml b_count, kBa g b_at b_cap b_bytes]) sz) := by
  refine gOfLI (cc := cJ0_init_db425) (maxL := 5) (ret := none) (by decide) rfl (Nat.le_of_ble_eq_true rfl) ?_
  intro p e s m below meth c ls Q A hQ hx hb hr hml hts hown hlocks hE hA0 hsz hP hD hA hS hl hX hN hin
  have hl : lv_has ls 5 [(0, .ref h0), (1, .ref (a_sb 0)), (2, .null)] := hl
  refine lv_aload_n hx hb dJ0_init_db425_0 rfl (lv_at hl 0 rfl) ?_
  refine W.objInit hx hb hown (gW hts 1 (.methodLink RJ0 1 objectInit) rfl) (gW hts 2 (.instanceMethod objectInit) rfl) (hts _ (List.mem_of_getElem? (i := 3) rfl)) rfl (by rw [hml]; exact hl.1) rfl dJ0_init_db425_1 (Nat.le_of_ble_eq_true rfl) (Nat.le_of_ble_eq_true rfl) ?_
  refine W.eq (g2 := F0 m 4 ls []) rfl ?_
  refine lv_aload_n hx hb dJ0_init_db425_4 rfl (lv_at hl 1 rfl) ?_
  have hF := gFree (bs := [[(h0, .inr (0, [.null, .int 0, .int 0, .int 0]))], kSO g a_sb b_at b_ml b_count, kBa g b_at b_cap b_bytes]) hD hS hA [1, 2]
  refine va_callr (gRunU (As := []) (rest := []) ⟨hx, hb, hml, hown, hts⟩ (ctJ5_getValue_6d5f1 l g a_sb _ b_ml b_count b_at b_cap b_bytes) (va_cwU 0 hts gJ0_init_db425_J5_getValue_6d5f1_u552J4 rfl rfl rfl rfl (by decide +kernel) ⟨Nat.le_of_ble_eq_true rfl, Nat.le_of_ble_eq_true rfl⟩) hE (gSub (bs := [[(h0, .inr (0, [.null, .int 0, .int 0, .int 0]))], kSO g a_sb b_at b_ml b_count, kBa g b_at b_cap b_bytes]) hP [1, 2]) (gDSub (bs := [[(h0, .inr (0, [.null, .int 0, .int 0, .int 0]))], kSO g a_sb b_at b_ml b_count, kBa g b_at b_cap b_bytes]) hD [1, 2] rfl) 0 1 rfl rfl rfl rfl rfl hl.1 rfl (lv_room (Nat.le_of_ble_eq_true rfl)) dJ0_init_db425_5 ⟨Nat.le_of_ble_eq_true rfl, Nat.le_of_ble_eq_true rfl⟩) hS (fun q _ h => hF q h) hF (fun u ra t9 H1 locs ht hvm hw0 hB hz1 hk1 hS => ?_)
  obtain ⟨rfl, hP1, hD1⟩ := hB
  rw [ht] at hP1
  obtain ⟨hP, hD⟩ := gJoin (bs := [[(h0, .inr (0, [.null, .int 0, .int 0, .int 0]))], kSO g a_sb b_at b_ml b_count, kBa g b_at b_cap b_bytes]) hP hD [1, 2] [kSO g a_sb b_at b_ml b_count, kBa g b_at b_cap b_bytes] rfl rfl hk1 hF hP1 hD1
  generalize H1 = H at hP hS ⊢
  have hP : va_P g.1 vwCl (List.flatten [[(h0, .inr (0, [.null, .int 0, .int 0, .int 0]))], kSO g a_sb b_at b_ml b_count, kBa g b_at b_cap b_bytes]) H := hP
  have hD : va_D A (List.flatten [[(h0, .inr (0, [.null, .int 0, .int 0, .int 0]))], kSO g a_sb b_at b_ml b_count, kBa g b_at b_cap b_bytes]) := hD
  refine lv_astore_n (lv' := [(3, .ref (b_at 0)), (0, .ref h0), (1, .ref (a_sb 0)), (2, .null)]) hx hb dJ0_init_db425_8 rfl hl (by decide) rfl (fun ls hl => ?_)
  refine lv_aload_n hx hb dJ0_init_db425_9 rfl (lv_at hl 2 rfl) ?_
  refine gCi0 (bs := [[(h0, .inr (0, [.null, .int 0, .int 0, .int 0]))], kSO g a_sb b_at b_ml b_count, kBa g b_at b_cap b_bytes]) (gRunU (As := []) (rest := []) ⟨hx, hb, hml, hown, hts⟩ (ctJ4_length_8abf5 l g a_sb b_at _ b_ml b_count (show wpJ4_length_8abf5 b_count (fun r => b_count = r) from rfl)) (va_cwO 0 hts gJ0_init_db425_J4_length_8abf5_u549J4 rfl rfl rfl (List.mem_of_getElem? (i := 25) rfl) (by decide +kernel) ⟨Nat.le_of_ble_eq_true rfl, Nat.le_of_ble_eq_true rfl⟩) hE (gSub (bs := [[(h0, .inr (0, [.null, .int 0, .int 0, .int 0]))], kSO g a_sb b_at b_ml b_count, kBa g b_at b_cap b_bytes]) hP [1]) (gDSub (bs := [[(h0, .inr (0, [.null, .int 0, .int 0, .int 0]))], kSO g a_sb b_at b_ml b_count, kBa g b_at b_cap b_bytes]) hD [1] rfl) 0 1 rfl rfl rfl rfl rfl hl.1 rfl (lv_room (Nat.le_of_ble_eq_true rfl)) dJ0_init_db425_10 ⟨Nat.le_of_ble_eq_true rfl, Nat.le_of_ble_eq_true rfl⟩) hP hD hS hA [1] rfl rfl rfl (fun r H locs hw hP hD hS => ?_)
  subst hw
  have hP : va_P g.1 vwCl (List.flatten [[(h0, .inr (0, [.null, .int 0, .int 0, .int 0]))], kSO g a_sb b_at b_ml b_count, kBa g b_at b_cap b_bytes]) H := hP
  have hD : va_D A (List.flatten [[(h0, .inr (0, [.null, .int 0, .int 0, .int 0]))], kSO g a_sb b_at b_ml b_count, kBa g b_at b_cap b_bytes]) := hD
  refine lv_istore (lv' := [(4, .int b_count), (3, .ref (b_at 0)), (0, .ref h0), (1, .ref (a_sb 0)), (2, .null)]) hx hb dJ0_init_db425_13 hl (by decide) rfl (fun ls hl => ?_)
  refine lv_aload_n hx hb dJ0_init_db425_15 rfl (lv_at hl 3 rfl) ?_
  refine gCi0 (bs := [[(h0, .inr (0, [.null, .int 0, .int 0, .int 0]))], kSO g a_sb b_at b_ml b_count, kBa g b_at b_cap b_bytes]) (gRunUX (As := []) (rest := []) ⟨hx, hb, hml, hown, hts⟩ (ctJ5_isLatin1_aae02 l g t a_sb b_at _ b_ml b_count (show wpJ5_isLatin1_aae02 (fun r => r = 1) from rfl)) (va_cwU 0 hts gJ0_init_db425_J5_isLatin1_aae02_u1047J4 rfl rfl rfl rfl (by decide +kernel) ⟨Nat.le_of_ble_eq_true rfl, Nat.le_of_ble_eq_true rfl⟩) hE hX hS (gFree (bs := [[(h0, .inr (0, [.null, .int 0, .int 0, .int 0]))], kSO g a_sb b_at b_ml b_count, kBa g b_at b_cap b_bytes]) hD hS hA [1]) (gSub (bs := [[(h0, .inr (0, [.null, .int 0, .int 0, .int 0]))], kSO g a_sb b_at b_ml b_count, kBa g b_at b_cap b_bytes]) hP [1]) (gDSub (bs := [[(h0, .inr (0, [.null, .int 0, .int 0, .int 0]))], kSO g a_sb b_at b_ml b_count, kBa g b_at b_cap b_bytes]) hD [1] rfl) 0 1 rfl rfl rfl rfl rfl hl.1 rfl (lv_room (Nat.le_of_ble_eq_true rfl)) dJ0_init_db425_16 ⟨Nat.le_of_ble_eq_true rfl, Nat.le_of_ble_eq_true rfl⟩) hP hD hS hA [1] rfl rfl rfl (fun r H locs hw hP hD hS => ?_)
  subst hw
  have hP : va_P g.1 vwCl (List.flatten [[(h0, .inr (0, [.null, .int 0, .int 0, .int 0]))], kSO g a_sb b_at b_ml b_count, kBa g b_at b_cap b_bytes]) H := hP
  have hD : va_D A (List.flatten [[(h0, .inr (0, [.null, .int 0, .int 0, .int 0]))], kSO g a_sb b_at b_ml b_count, kBa g b_at b_cap b_bytes]) := hD
  refine lv_if_eq (tgt := 41) hx hb dJ0_init_db425_19 (by decide) (fun h => absurd h (by decide)) (fun _ => ?_)
  refine lv_aload_n hx hb dJ0_init_db425_22 rfl (lv_at hl 2 rfl) ?_
  refine lv_iconst (v := 0) hx hb dJ0_init_db425_23 (by decide) ?_
  refine va_putF (D := g.1) (ci := 0) (v := .int 0) (ty := .byte) (C := RJ0) (T := TJ0) (N := 4) hx hb hts inJ0_init_db425_J0 tyJ0 tyJ0_ok nmJ0 hown hE.1 hP hD hS 0 rfl rfl 1 (by decide) (gW hts 4 (.fieldLink RJ0 15 "java/lang/String" "coder" "B") rfl) (fun _ h9 => h9) rfl hin rfl (by decide +kernel) rfl rfl (Nat.le_of_ble_eq_true rfl) dJ0_init_db425_24 (fun H locs hP hD hS => ?_)
  have hP : va_P g.1 vwCl (List.flatten [[(h0, .inr (0, [.null, .int 0, .int 0, .int 0]))], kSO g a_sb b_at b_ml b_count, kBa g b_at b_cap b_bytes]) H := hP
  have hD : va_D A (List.flatten [[(h0, .inr (0, [.null, .int 0, .int 0, .int 0]))], kSO g a_sb b_at b_ml b_count, kBa g b_at b_cap b_bytes]) := hD
  refine lv_aload_n hx hb dJ0_init_db425_27 rfl (lv_at hl 2 rfl) ?_
  refine lv_aload_n hx hb dJ0_init_db425_28 rfl (lv_at hl 1 rfl) ?_
  refine lv_iconst (v := 0) hx hb dJ0_init_db425_29 (by decide) ?_
  refine lv_iload hx hb dJ0_init_db425_30 (lv_at hl 0 rfl) ?_
  subst hcn
  have hF := gFree (bs := [[(h0, .inr (0, [.null, .int 0, .int 0, .int 0]))], kSO g a_sb b_at b_ml (nI n), kBa g b_at b_cap b_bytes]) hD hS hA [2]
  refine va_callr (gRunSL (As := [.ref (b_at 0), .int 0, .int (nI n)]) (rest := [.ref h0]) ⟨hx, hb, hml, hown, hts⟩ (ctJ7_copyOfRange_39247 l g t _ b_at b_cap b_bytes n hn hn2 hf) (va_cwS 3 hts gJ0_init_db425_J7_copyOfRange_39247 rfl rfl rfl (by decide +kernel) ⟨Nat.le_of_ble_eq_true rfl, Nat.le_of_ble_eq_true rfl⟩) hE hN hX hS hF (gSub (bs := [[(h0, .inr (0, [.null, .int 0, .int 0, .int 0]))], kSO g a_sb b_at b_ml (nI n), kBa g b_at b_cap b_bytes]) hP [2]) (gDSub (bs := [[(h0, .inr (0, [.null, .int 0, .int 0, .int 0]))], kSO g a_sb b_at b_ml (nI n), kBa g b_at b_cap b_bytes]) hD [2] rfl) rfl rfl hl.1 rfl (lv_room (Nat.le_of_ble_eq_true rfl)) dJ0_init_db425_32 ⟨Nat.le_of_ble_eq_true rfl, Nat.le_of_ble_eq_true rfl⟩) hS (fun q _ h => hF q h) hF (fun f ra t9 H1 locs ht hvm hw0 hB hz1 hk1 hS => ?_)
  obtain ⟨hP1, hD1⟩ := hB
  rw [ht] at hP1
  have e9 : List.flatten [List.flatten [kBa g b_at b_cap b_bytes, kBa g (fun _ => ra) n f]] = List.flatten [kBa g b_at b_cap b_bytes, kBa g (fun _ => ra) n f] := by rw [List.flatten_cons, List.flatten_nil, List.append_nil]
  obtain ⟨hP, hD⟩ := gJoin (bs := [[(h0, .inr (0, [.null, .int 0, .int 0, .int 0]))], kSO g a_sb b_at b_ml (nI n), kBa g b_at b_cap b_bytes]) hP hD [2] [List.flatten [kBa g b_at b_cap b_bytes, kBa g (fun _ => ra) n f]] rfl rfl hk1 hF (by rw [e9]; exact hP1) (by rw [e9]; exact hD1)
  generalize H1 = H at hP hS ⊢
  have hP : va_P g.1 vwCl (List.flatten [[(h0, .inr (0, [.null, .int 0, .int 0, .int 0]))], kSO g a_sb b_at b_ml (nI n), kBa g b_at b_cap b_bytes, kBa g (fun _ => ra) n f]) H := hP
  have hD : va_D A (List.flatten [[(h0, .inr (0, [.null, .int 0, .int 0, .int 0]))], kSO g a_sb b_at b_ml (nI n), kBa g b_at b_cap b_bytes, kBa g (fun _ => ra) n f]) := hD
  refine va_putF (D := g.1) (ci := 0) (v := .ref ra) (ty := .array .byte) (C := RJ0) (T := TJ0) (N := 4) hx hb hts inJ0_init_db425_J0 tyJ0 tyJ0_ok nmJ0 hown hE.1 hP hD hS 0 rfl rfl 0 (by decide) (gW hts 5 (.fieldLink RJ0 9 "java/lang/String" "value" "[B") rfl) (fun _ h9 => h9) rfl hin rfl (by decide +kernel) rfl rfl (Nat.le_of_ble_eq_true rfl) dJ0_init_db425_35 (fun H locs hP hD hS => ?_)
  have hP : va_P g.1 vwCl (List.flatten [[(h0, .inr (0, [.ref ra, .int 0, .int 0, .int 0]))], kSO g a_sb b_at b_ml (nI n), kBa g b_at b_cap b_bytes, kBa g (fun _ => ra) n f]) H := hP
  have hD : va_D A (List.flatten [[(h0, .inr (0, [.ref ra, .int 0, .int 0, .int 0]))], kSO g a_sb b_at b_ml (nI n), kBa g b_at b_cap b_bytes, kBa g (fun _ => ra) n f]) := hD
  refine lv_goto (tgt := 97) hx hb dJ0_init_db425_38 (by decide) ?_
  have hP := gSub (bs := [[(h0, .inr (0, [.ref ra, .int 0, .int 0, .int 0]))], kSO g a_sb b_at b_ml (nI n), kBa g b_at b_cap b_bytes, kBa g (fun _ => ra) n f]) hP [0, 3, 1, 2]
  have hD := gDSub (bs := [[(h0, .inr (0, [.ref ra, .int 0, .int 0, .int 0]))], kSO g a_sb b_at b_ml (nI n), kBa g b_at b_cap b_bytes, kBa g (fun _ => ra) n f]) hD [0, 3, 1, 2] rfl
  have hP : va_P g.1 vwCl (List.flatten [kSw g (fun _ => h0) (fun _ => ra) n f, kSO g a_sb b_at b_ml (nI n), kBa g b_at b_cap b_bytes]) H := hP
  have hD : va_D A (List.flatten [kSw g (fun _ => h0) (fun _ => ra) n f, kSO g a_sb b_at b_ml (nI n), kBa g b_at b_cap b_bytes]) := hD
  subst hQ
  refine W.widen (k := 1) (n := 200) (Nat.le_of_ble_eq_true rfl) (Nat.le_of_ble_eq_true rfl) ?_
  exact W.vret hx hb hr (fun t9 ht _ => ⟨⟨(ra, f), rfl, hw0, by rw [ht]; exact hP, by rw [← hA0]; exact hD⟩, by rw [← hA0]; exact hS.F ht⟩) hS.2.2 dJ0_init_db425_97
abbrev rmJ0_init_81219 : Room := { frames := 5, cells := 1, slots := 200, locals := 195 }
set_option maxHeartbeats 4000000 in
set_option maxRecDepth 100000 in
theorem ctJ0_init_81219 (l : Launch) (g : GG) (t : GT) (h0 : Nat) (a_sb : Nat → Nat) (sz : Nat) (b_ml b_count : Int32) (b_at : Nat → Nat) (b_cap : Nat) (b_bytes : Nat → Int32) (n : Nat) (hcn : b_count = nI n) (hn : n ≤ b_cap) (hn2 : b_cap ≤ 200) (hf : ∀ i, i < b_cap → fits .byte (.int (b_bytes i)) = true) :
    Met l yJ0_init_81219 wsJ0_init_81219 rmJ0_init_81219 (gPL g t sz (List.flatten [[(h0, .inr (0, [.null, .int 0, .int 0, .int 0]))], kSO g a_sb b_at b_ml b_count, kBa g b_at b_cap b_bytes]) [.ref h0, .ref (a_sb 0)]) (va_Qv (fun w : Nat × (Nat → Int32) => ∀ i, i < n → w.2 i = b_bytes i) (fun w t => gB g (List.flatten [[(h0, .inr (0, [.null, .int 0, .int 0, .int 0]))], kSO g a_sb b_at b_ml b_count, kBa g b_at b_cap b_bytes]) sz (List.flatten [kSw g (fun _ => h0) (fun _ => w.1) n w.2, kSO g a_sb b_at b_ml b_count, kBa g b_at b_cap b_bytes]) t) (va_A (List.flatten [[(h0, .inr (0, [.null, .int 0, .int 0, .int 0]))], kSO g a_sb b_at b_ml b_count, kBa g b_at b_cap b_bytes]) sz)) 1 200 (va_A (List.flatten [[(h0, .inr (0, [.null, .int 0, .int 0, .int 0]))], kSO g a_sb b_at b_ml b_count, kBa g b_at b_cap b_bytes]) sz) := by
  refine gOfLI (cc := cJ0_init_81219) (maxL := 2) (ret := none) (by decide) rfl (Nat.le_of_ble_eq_true rfl) ?_
  intro p e s m below meth c ls Q A hQ hx hb hr hml hts hown hlocks hE hA0 hsz hP hD hA hS hl hX hN hin
  have hl : lv_has ls 2 [(0, .ref h0), (1, .ref (a_sb 0))] := hl
  refine lv_aload_n hx hb dJ0_init_81219_0 rfl (lv_at hl 0 rfl) ?_
  refine lv_aload_n hx hb dJ0_init_81219_1 rfl (lv_at hl 1 rfl) ?_
  refine lv_null hx hb dJ0_init_81219_2 ?_
  have hF := gFree (bs := [[(h0, .inr (0, [.null, .int 0, .int 0, .int 0]))], kSO g a_sb b_at b_ml b_count, kBa g b_at b_cap b_bytes]) hD hS hA [0, 1, 2]
  refine va_callv (va_runI (As := [.ref (a_sb 0), .null]) (rest := []) ⟨hx, hb, hml, hown, hts⟩ (ctJ0_init_db425 l g t h0 a_sb _ b_ml b_count b_at b_cap b_bytes n hcn hn hn2 hf) (cwI 2 hts gJ0_init_81219_J0_init_db425 rfl rfl rfl (gW hts 3 (.initialized RJ0) rfl) (gW hts 1 (.methodLink RJ0 489 yJ0_init_db425) rfl) (gW hts 2 (.instanceMethod yJ0_init_db425) rfl) rfl (by decide +kernel) ⟨Nat.le_of_ble_eq_true rfl, Nat.le_of_ble_eq_true rfl⟩) ⟨gPL.blind, gPL.of hE hN (gSub (bs := [[(h0, .inr (0, [.null, .int 0, .int 0, .int 0]))], kSO g a_sb b_at b_ml b_count, kBa g b_at b_cap b_bytes]) hP [0, 1, 2]) (gDSub (bs := [[(h0, .inr (0, [.null, .int 0, .int 0, .int 0]))], kSO g a_sb b_at b_ml b_count, kBa g b_at b_cap b_bytes]) hD [0, 1, 2] rfl) hX hS hF⟩ rfl rfl hl.1 rfl (lv_room (Nat.le_of_ble_eq_true rfl)) dJ0_init_81219_3 ⟨Nat.le_of_ble_eq_true rfl, Nat.le_of_ble_eq_true rfl⟩) hS (fun q _ h => hF q h) hF (fun w t9 H1 locs ht hvm hw hB hz1 hk1 hS => ?_)
  obtain ⟨hP, hD⟩ := hB
  rw [ht] at hP
  subst hQ
  exact W.vret hx hb hr (fun t9 ht _ => ⟨⟨w, rfl, hw, by rw [ht]; exact hP, by rw [hsz]; exact hD⟩, by rw [← hA0]; exact hS.F ht⟩) hS.2.2 dJ0_init_81219_6
abbrev rmJ4_toString_0e30d : Room := { frames := 6, cells := 2, slots := 204, locals := 217 }
set_option maxRecDepth 20000 in
theorem inJ4_toString_0e30d_J0 : ∀ w ∈ wsJ00, w ∈ wsJ4_toString_0e30d := by decide +kernel
set_option maxHeartbeats 4000000 in
set_option maxRecDepth 100000 in
/-- the text that a builder holds -/
theorem ctJ4_toString_0e30d (l : Launch) (g : GG) (t : GT) (a_sb : Nat → Nat) (sz : Nat) (b_ml b_count : Int32) (b_at : Nat → Nat) (b_cap : Nat) (b_bytes : Nat → Int32) (n : Nat) (hcn : b_count = nI n) (hn : n ≤ b_cap) (hn2 : b_cap ≤ 200) (hf : ∀ i, i < b_cap → fits .byte (.int (b_bytes i)) = true) :
    Met l yJ4_toString_0e30d wsJ4_toString_0e30d rmJ4_toString_0e30d (gPL g t sz (List.flatten [kSO g a_sb b_at b_ml b_count, kBa g b_at b_cap b_bytes]) [.ref (a_sb 0)]) (va_Qr (fun w : (Nat → Nat) × (Nat → Nat) × Nat × (Nat → Int32) => w.2.2.1 = n ∧ ∀ i, i < n → w.2.2.2 i = b_bytes i) (fun w a tt => a = (fun w : (Nat → Nat) × (Nat → Nat) × Nat × (Nat → Int32) => w.1 0) w ∧ gB g (List.flatten [kSO g a_sb b_at b_ml b_count, kBa g b_at b_cap b_bytes]) sz (List.flatten ((fun w : (Nat → Nat) × (Nat → Nat) × Nat × (Nat → Int32) => [kSO g a_sb b_at b_ml b_count, kBa g b_at b_cap b_bytes, kSw g w.1 w.2.1 w.2.2.1 w.2.2.2]) w)) tt) (va_A (List.flatten [kSO g a_sb b_at b_ml b_count, kBa g b_at b_cap b_bytes]) sz)) 2 204 (va_A (List.flatten [kSO g a_sb b_at b_ml b_count, kBa g b_at b_cap b_bytes]) sz) := by
  refine gOfL (cc := cJ4_toString_0e30d) (maxL := 1) (ret := (some (.object "java/lang/String"))) (by decide) rfl (Nat.le_of_ble_eq_true rfl) ?_
  intro p e s m below meth c ls Q A hQ hx hb hr hml hts hown hlocks hE hA0 hsz hP hD hA hS hl hX hN
  have hl : lv_has ls 1 [(0, .ref (a_sb 0))] := hl
  refine va_new (ci := 0) (fs := [.null, .int 0, .int 0, .int 0]) (C := RJ0) (T := TJ0) (N := 4) hx hb hts inJ4_toString_0e30d_J0 tyJ0 tyJ0_ok hown (gW hts 1 (.classLink RJ4 18 RJ0) rfl) (gW hts 2 (.instantiable RJ0 4) rfl) (gW hts 3 (.initialized RJ0) rfl) hE.1 hP hD hS hA rfl (fun j hj => by rcases (show j = 0 ∨ j = 1 ∨ j = 2 ∨ j = 3 by omega) with rfl | rfl | rfl | rfl <;> rfl) (Nat.le_of_ble_eq_true rfl) (Nat.le_of_ble_eq_true rfl) dJ4_toString_0e30d_0 (fun q H hP hD hS => ?_)
  have hP := gApp (bs := [kSO g a_sb b_at b_ml b_count, kBa g b_at b_cap b_bytes]) hP
  have hD := gAppD (bs := [kSO g a_sb b_at b_ml b_count, kBa g b_at b_cap b_bytes]) hD
  refine lv_dup hx hb dJ4_toString_0e30d_3 rfl ?_
  refine lv_aload_n hx hb dJ4_toString_0e30d_4 rfl (lv_at hl 0 rfl) ?_
  have hP : va_P g.1 vwCl (List.flatten [kSO g a_sb b_at b_ml b_count, kBa g b_at b_cap b_bytes, [(q, .inr (0, [.null, .int 0, .int 0, .int 0]))]]) H := hP
  have hD : va_D A (List.flatten [kSO g a_sb b_at b_ml b_count, kBa g b_at b_cap b_bytes, [(q, .inr (0, [.null, .int 0, .int 0, .int 0]))]]) := hD
  have hP := gSub (bs := [kSO g a_sb b_at b_ml b_count, kBa g b_at b_cap b_bytes, [(q, .inr (0, [.null, .int 0, .int 0, .int 0]))]]) hP [2, 0, 1]
  have hD := gDSub (bs := [kSO g a_sb b_at b_ml b_count, kBa g b_at b_cap b_bytes, [(q, .inr (0, [.null, .int 0, .int 0, .int 0]))]]) hD [2, 0, 1] rfl
  have hP : va_P g.1 vwCl (List.flatten [[(q, .inr (0, [.null, .int 0, .int 0, .int 0]))], kSO g a_sb b_at b_ml b_count, kBa g b_at b_cap b_bytes]) H := hP
  have hD : va_D A (List.flatten [[(q, .inr (0, [.null, .int 0, .int 0, .int 0]))], kSO g a_sb b_at b_ml b_count, kBa g b_at b_cap b_bytes]) := hD
  have hF := gFree (bs := [[(q, .inr (0, [.null, .int 0, .int 0, .int 0]))], kSO g a_sb b_at b_ml b_count, kBa g b_at b_cap b_bytes]) hD hS hA [0, 1, 2]
  refine va_callv (va_runI (As := [.ref (a_sb 0)]) (rest := [.ref q]) ⟨hx, hb, hml, hown, hts⟩ (ctJ0_init_81219 l g t q a_sb _ b_ml b_count b_at b_cap b_bytes n hcn hn hn2 hf) (cwI 1 hts gJ4_toString_0e30d_J0_init_81219 rfl rfl rfl (gW hts 3 (.initialized RJ0) rfl) (gW hts 4 (.methodLink RJ4 137 yJ0_init_81219) rfl) (gW hts 5 (.instanceMethod yJ0_init_81219) rfl) rfl (by decide +kernel) ⟨Nat.le_of_ble_eq_true rfl, Nat.le_of_ble_eq_true rfl⟩) ⟨gPL.blind, gPL.of hE hN (gSub (bs := [[(q, .inr (0, [.null, .int 0, .int 0, .int 0]))], kSO g a_sb b_at b_ml b_count, kBa g b_at b_cap b_bytes]) hP [0, 1, 2]) (gDSub (bs := [[(q, .inr (0, [.null, .int 0, .int 0, .int 0]))], kSO g a_sb b_at b_ml b_count, kBa g b_at b_cap b_bytes]) hD [0, 1, 2] rfl) hX hS hF⟩ rfl rfl hl.1 rfl (lv_room (Nat.le_of_ble_eq_true rfl)) dJ4_toString_0e30d_5 ⟨Nat.le_of_ble_eq_true rfl, Nat.le_of_ble_eq_true rfl⟩) hS (fun q _ h => hF q h) hF (fun w t9 H1 locs ht hvm hw hB hz1 hk1 hS => ?_)
  obtain ⟨hP1, hD1⟩ := hB
  rw [ht] at hP1
  obtain ⟨hP, hD⟩ := gJoin (bs := [[(q, .inr (0, [.null, .int 0, .int 0, .int 0]))], kSO g a_sb b_at b_ml b_count, kBa g b_at b_cap b_bytes]) hP hD [0, 1, 2] [kSw g (fun _ => q) (fun _ => w.1) n w.2, kSO g a_sb b_at b_ml b_count, kBa g b_at b_cap b_bytes] rfl rfl hk1 hF hP1 hD1
  generalize H1 = H at hP hS ⊢
  have hP := gSub (bs := [kSw g (fun _ => q) (fun _ => w.1) n w.2, kSO g a_sb b_at b_ml b_count, kBa g b_at b_cap b_bytes]) hP [1, 2, 0]
  have hD := gDSub (bs := [kSw g (fun _ => q) (fun _ => w.1) n w.2, kSO g a_sb b_at b_ml b_count, kBa g b_at b_cap b_bytes]) hD [1, 2, 0] rfl
  subst hQ
  refine W.widen (k := 2) (n := 204) (Nat.le_of_ble_eq_true rfl) (Nat.le_of_ble_eq_true rfl) ?_
  exact W.aret hx hb hr (Or.inl ⟨_, rfl⟩) (Or.inr ⟨_, rfl⟩) (gRn (w := ((fun _ => q), (fun _ => w.1), n, w.2)) (ad := (fun w : (Nat → Nat) × (Nat → Nat) × Nat × (Nat → Int32) => w.1 0)) (wf := (fun w : (Nat → Nat) × (Nat → Nat) × Nat × (Nat → Int32) => [kSO g a_sb b_at b_ml b_count, kBa g b_at b_cap b_bytes, kSw g w.1 w.2.1 w.2.2.1 w.2.2.2])) hA0 hsz ⟨rfl, hw⟩ hP hD hS) hS.2.2 dJ4_toString_0e30d_8
