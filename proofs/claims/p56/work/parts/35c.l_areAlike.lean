/-! contract: by program -/
abbrev rmL_areAlike : Room := { frames := 1, cells := 0, slots := 0, locals := 100 }
set_option maxHeartbeats 8000000 in
set_option maxRecDepth 100000 in
theorem ctL_areAlike (l : Launch) (hl0 : l.stackTraces = false) (g : GG) (t : GT) (at_an0 : Nat → Nat) (f_an0 : Nat → Int32) (at_an1 : Nat → Nat) (f_an1 : Nat → Int32) (sz : Nat) {post : Int32 → Prop} (hw : wpL_areAlike f_an0 f_an1 post) :
    Met l yL_areAlike wsB_L_areAlike rmL_areAlike (gPL g t sz (List.flatten [kAr g at_an0 160 f_an0, kAr g at_an1 160 f_an1]) [.ref (at_an0 0), .ref (at_an1 0)]) (gQi0 post (gB g (List.flatten [kAr g at_an0 160 f_an0, kAr g at_an1 160 f_an1]) sz (List.flatten [kAr g at_an0 160 f_an0, kAr g at_an1 160 f_an1])) (va_A (List.flatten [kAr g at_an0 160 f_an0, kAr g at_an1 160 f_an1]) sz)) 0 0 (va_A (List.flatten [kAr g at_an0 160 f_an0, kAr g at_an1 160 f_an1]) sz) := by
  refine gOfL (cc := cL_areAlike) (maxL := 3) (ret := (some .boolean)) (by decide) rfl (Nat.le_of_ble_eq_true rfl) ?_
  intro p e s m below meth c ls Q A hQ hx hb hr hml hts hown hlocks hE hA0 hsz hP hD hA hS hl hX hN
  have hl : lv_has ls 3 [(0, .ref (at_an0 0)), (1, .ref (at_an1 0))] := hl
  have L2 : ∀ (n : Nat) (x2_2 : Int32) (H : Heap) (locs : List Loc) (ls : Array Slot) (cl sl : Nat), cl + zbud 0 n ≤ 0 → sl + zbud 0 n ≤ 0 → wpL_areAlike_L2 f_an0 f_an1 post n x2_2 → va_P g.1 vwCl (List.flatten [kAr g at_an0 160 f_an0, kAr g at_an1 160 f_an1]) H → va_D A (List.flatten [kAr g at_an0 160 f_an0, kAr g at_an1 160 f_an1]) → va_S A s.heap H locs → lv_has ls 3 [(0, .ref (at_an0 0)), (1, .ref (at_an1 0)), (2, .int x2_2)] → W p l e rmL_areAlike s m (([.ref (at_an0 0), .ref (at_an1 0)] : List Value).toArray) below meth c H locs cl sl Q (F0 m 2 ls []) := by
    intro n_2
    induction n_2 with
    | zero => intro x2_2 H locs ls cl sl _ _ hw; exact False.elim hw
    | succ n_2 ih_2 =>
      intro x2_2 H locs ls cl_2 sl_2 hc_2 hs_2 hw hP hD hS hl
      have hc_2 := zbud_s hc_2
      have hs_2 := zbud_s hs_2
      refine lv_iload_n hx hb dL_areAlike_2 rfl (lv_at hl 2 rfl) ?_
      refine lv_aload_n hx hb dL_areAlike_3 rfl (lv_at hl 0 rfl) ?_
      refine va_alen (v := 160) hx hb hE.1 hP 0 0 rfl rfl rfl dL_areAlike_4 ?_
      refine lv_icmp_ge (tgt := 25) hx hb dL_areAlike_5 (by decide) (fun c_5 => ?_) (fun c_5 => ?_)
      · have hw := hw.1 c_5
        refine lv_iconst (v := 1) hx hb dL_areAlike_25 (by decide) ?_
        subst hQ
        refine W.widen (k := 0) (n := 0) (by omega) (by omega) ?_
        exact W.zret (ty := .boolean) hx hb hr (by decide) (gRi0 (wf := [kAr g at_an0 160 f_an0, kAr g at_an1 160 f_an1]) hA0 hsz hw hP hD hS) hS.2.2 dL_areAlike_26
      · have hw := hw.2 c_5
        refine lv_aload_n hx hb dL_areAlike_8 rfl (lv_at hl 0 rfl) ?_
        refine lv_iload_n hx hb dL_areAlike_9 rfl (lv_at hl 2 rfl) ?_
        have h1 := hw.1
        have hw := hw.2
        refine va_iald hx hb hE.1 hP 0 0 rfl rfl h1 dL_areAlike_10 ?_
        refine lv_aload_n hx hb dL_areAlike_11 rfl (lv_at hl 1 rfl) ?_
        refine lv_iload_n hx hb dL_areAlike_12 rfl (lv_at hl 2 rfl) ?_
        have h2 := hw.1
        have hw := hw.2
        refine va_iald hx hb hE.1 hP 1 0 rfl rfl h2 dL_areAlike_13 ?_
        refine lv_icmp_eq (tgt := 19) hx hb dL_areAlike_14 (by decide) (fun c_14 => ?_) (fun c_14 => ?_)
        · have hw := hw.1 c_14
          refine lv_iinc (v := (x2_2 + 1)) (lv' := [(2, .int (x2_2 + 1)), (0, .ref (at_an0 0)), (1, .ref (at_an1 0))]) hx hb dL_areAlike_19 hl (k := 2) rfl rfl (by decide) rfl (fun ls hl => ?_)
          refine lv_goto (tgt := 2) hx hb dL_areAlike_22 (by decide) ?_
          exact ih_2 (x2_2 + 1) _ _ _ _ _ (by omega) (by omega) hw hP hD hS (lv_sub hl [1, 2, 0] rfl)
        · have hw := hw.2 c_14
          refine lv_iconst (v := 0) hx hb dL_areAlike_17 (by decide) ?_
          subst hQ
          refine W.widen (k := 0) (n := 0) (by omega) (by omega) ?_
          exact W.zret (ty := .boolean) hx hb hr (by decide) (gRi0 (wf := [kAr g at_an0 160 f_an0, kAr g at_an1 160 f_an1]) hA0 hsz hw hP hD hS) hS.2.2 dL_areAlike_18
  refine lv_iconst (v := 0) hx hb dL_areAlike_0 (by decide) ?_
  refine lv_istore_n (lv' := [(2, .int 0), (0, .ref (at_an0 0)), (1, .ref (at_an1 0))]) hx hb dL_areAlike_1 rfl hl (by decide) rfl (fun ls hl => ?_)
  obtain ⟨n, hn, hw⟩ := hw
  have hbc := zbud_le (a := 0) hn
  have hbs := zbud_le (a := 0) hn
  have hbc : zbud 0 n ≤ 0 := hbc
  have hbs : zbud 0 n ≤ 0 := hbs
  exact L2 n 0 _ _ _ _ _ (by omega) (by omega) hw hP hD hS (lv_sub hl [1, 2, 0] rfl)
