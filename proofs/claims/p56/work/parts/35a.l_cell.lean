/-! contract: by program -/
abbrev rmL_cell : Room := { frames := 1, cells := 0, slots := 0, locals := 100 }
set_option maxHeartbeats 8000000 in
set_option maxRecDepth 100000 in
theorem ctL_cell (l : Launch) (hl0 : l.stackTraces = false) (g : GG) (t : GT) (sz : Nat) (z_len : Nat) (z_txt : Nat → Int32) (hgz : t.1 61 = z_len ∧ zxs t = z_txt) (x1 : Int32) {post : Int32 → Prop} (hw : wpL_cell z_len z_txt x1 post) :
    Met l yL_cell wsB_L_cell rmL_cell (gPL g t sz (List.flatten ([] : List va_W)) [.ref (t.1 60), .int x1]) (gQi0 post (gB g (List.flatten ([] : List va_W)) sz (List.flatten ([] : List va_W))) (va_A (List.flatten ([] : List va_W)) sz)) 0 0 (va_A (List.flatten ([] : List va_W)) sz) := by
  refine gOfL (cc := cL_cell) (maxL := 3) (ret := (some .int)) (by decide) rfl (Nat.le_of_ble_eq_true rfl) ?_
  intro p e s m below meth c ls Q A hQ hx hb hr hml hts hown hlocks hE hA0 hsz hP hD hA hS hl hX hN
  have hzs := hX.1.2.2.2.2.2.2.2.2.2
  have hzs : va_X (t.1 60) z_len z_txt s s.heap ∧ t.1 60 < s.heap.size ∧ ¬ A (t.1 60) := by rw [← hgz.1, ← hgz.2]; exact hX.1.2.2.2.2.2.2.2.2.2
  have hl : lv_has ls 3 [(0, .ref (t.1 60)), (1, .int x1)] := hl
  have J15 : ∀ (z0_15 : Int32) (z1_15 : Int32) (x1_15 : Int32) (H : Heap) (locs : List Loc) (ls : Array Slot) (cl sl : Nat), cl ≤ 0 → sl ≤ 0 → wpL_cell_L15 z_len z_txt post z0_15 z1_15 x1_15 → va_P g.1 vwCl (List.flatten ([] : List va_W)) H → va_D A (List.flatten ([] : List va_W)) → va_S A s.heap H locs → lv_has ls 3 [(1, .int x1_15)] → W p l e rmL_cell s m (([.ref (t.1 60), .int x1] : List Value).toArray) below meth c H locs cl sl Q (F0 m 15 ls [.int z1_15, .int z0_15]) := by
    intro z0_15 z1_15 x1_15 H locs ls cl_15 sl_15 hc_15 hs_15 hw hP hD hS hl
    unfold wpL_cell_L15 at hw
    refine lv_sipush (v := 1009) hx hb dL_cell_15 (by decide) ?_
    refine lv_iload_n hx hb dL_cell_18 rfl (lv_at hl 0 rfl) ?_
    refine lv_imul hx hb dL_cell_19 ?_
    refine lv_iadd hx hb dL_cell_20 ?_
    refine lv_imul hx hb dL_cell_21 ?_
    refine lv_sipush (v := 12345) hx hb dL_cell_22 (by decide) ?_
    refine lv_iadd hx hb dL_cell_25 ?_
    refine lv_istore_n (lv' := [(2, .int ((z0_15 * (z1_15 + (1009 * x1_15))) + 12345)), (1, .int x1_15)]) hx hb dL_cell_26 rfl hl (by decide) rfl (fun ls hl => ?_)
    refine lv_iload_n hx hb dL_cell_27 rfl (lv_at hl 0 rfl) ?_
    refine lv_iload_n hx hb dL_cell_28 rfl (lv_at hl 0 rfl) ?_
    refine lv_bipush (v := 13) hx hb dL_cell_29 (by decide) ?_
    refine lv_iushr (v := (zush ((z0_15 * (z1_15 + (1009 * x1_15))) + 12345) (13 : Int32))) hx hb dL_cell_31 rfl ?_
    refine lv_ixor hx hb dL_cell_32 ?_
    refine lv_ldc (v := 1103515245) hx hb hown (hts _ (lwM tw608)) dL_cell_33 ?_
    refine lv_imul hx hb dL_cell_35 ?_
    refine lv_istore_n (lv' := [(2, .int ((((z0_15 * (z1_15 + (1009 * x1_15))) + 12345) ^^^ (zush ((z0_15 * (z1_15 + (1009 * x1_15))) + 12345) (13 : Int32))) * 1103515245)), (1, .int x1_15)]) hx hb dL_cell_36 rfl hl (by decide) rfl (fun ls hl => ?_)
    refine lv_iload_n hx hb dL_cell_37 rfl (lv_at hl 0 rfl) ?_
    refine lv_iload_n hx hb dL_cell_38 rfl (lv_at hl 0 rfl) ?_
    refine lv_bipush (v := 16) hx hb dL_cell_39 (by decide) ?_
    refine lv_iushr (v := (zush ((((z0_15 * (z1_15 + (1009 * x1_15))) + 12345) ^^^ (zush ((z0_15 * (z1_15 + (1009 * x1_15))) + 12345) (13 : Int32))) * 1103515245) (16 : Int32))) hx hb dL_cell_41 rfl ?_
    refine lv_ixor hx hb dL_cell_42 ?_
    subst hQ
    refine W.widen (k := 0) (n := 0) (by omega) (by omega) ?_
    exact W.iret hx hb hr (gRi0 (wf := ([] : List va_W)) hA0 hsz hw hP hD hS) hS.2.2 dL_cell_43
  refine lv_ldc (v := 69069) hx hb hown (hts _ (lwM tw607)) dL_cell_0 ?_
  refine lv_iload_n hx hb dL_cell_2 rfl (lv_at hl 1 rfl) ?_
  refine lv_aload_n hx hb dL_cell_3 rfl (lv_at hl 0 rfl) ?_
  refine va_slen hx hb hzs.1 hzs.2.1 hzs.2.2 hS dL_cell_4 ?_
  refine lv_icmp_ge (tgt := 14) hx hb dL_cell_5 (by decide) (fun c_5 => ?_) (fun c_5 => ?_)
  · have hw := hw.1 c_5
    refine lv_iconst (v := 0) hx hb dL_cell_14 (by decide) ?_
    exact J15 69069 0 x1 _ _ _ _ _ (by omega) (by omega) hw hP hD hS (lv_sub hl [1] rfl)
  · have hw := hw.2 c_5
    refine lv_aload_n hx hb dL_cell_8 rfl (lv_at hl 0 rfl) ?_
    refine lv_iload_n hx hb dL_cell_9 rfl (lv_at hl 1 rfl) ?_
    have h1 := hw.1
    have hw := hw.2
    refine va_sld hx hb hzs.1 hzs.2.1 hzs.2.2 hS h1 dL_cell_10 ?_
    refine lv_goto (tgt := 15) hx hb dL_cell_11 (by decide) ?_
    exact J15 69069 (z_txt x1.toNatClampNeg) x1 _ _ _ _ _ (by omega) (by omega) hw hP hD hS (lv_sub hl [1] rfl)
