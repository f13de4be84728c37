/-! contracts: by program (wip/whole/gen) -/
abbrev rmX6_isJunction : Room := { frames := 1, cells := 0, slots := 0, locals := 100 }
set_option maxHeartbeats 4000000 in
set_option maxRecDepth 100000 in
theorem ctX6_isJunction (l : Launch) (g : GG) (sz : Nat) (x0 : Int32) {post : Int32 → Prop} (hw : wpX6_isJunction x0 post) :
    Met l yX6_isJunction wsX6_isJunction rmX6_isJunction (gPc g sz (List.flatten []) [.int x0]) (gQi0 post (gB g (List.flatten []) sz (List.flatten [])) (va_A (List.flatten []) sz)) 0 0 (va_A (List.flatten []) sz) := by
  refine gOf (cc := cX6_isJunction) (maxL := 1) (ret := (some .boolean)) (by decide) rfl (Nat.le_of_ble_eq_true rfl) ?_
  intro p e s m below meth c ls Q A hQ hx hb hr hml hts hown hlocks hE hA0 hsz hP hD hA hS hl
  have hl : lv_has ls 1 [(0, .int x0)] := hl
  refine lv_iload_n hx hb dX6_isJunction_0 rfl (lv_at hl 0 rfl) ?_
  refine lv_if_lt (tgt := 14) hx hb dX6_isJunction_1 (by decide) (fun c_1 => ?_) (fun c_1 => ?_)
  · have hw := hw.1 c_1
    refine lv_iconst (v := 0) hx hb dX6_isJunction_14 (by decide) ?_
    subst hQ
    exact W.zret (ty := .boolean) hx hb hr (by decide) (gRi0 (wf := _) hA0 hsz hw hP hD hS) hS.2.2 dX6_isJunction_15
  · have hw := hw.2 c_1
    refine lv_iload_n hx hb dX6_isJunction_4 rfl (lv_at hl 0 rfl) ?_
    refine lv_bipush (v := 8) hx hb dX6_isJunction_5 (by decide) ?_
    refine lv_icmp_ge (tgt := 14) hx hb dX6_isJunction_7 (by decide) (fun c_7 => ?_) (fun c_7 => ?_)
    · have hw := hw.1 c_7
      refine lv_iconst (v := 0) hx hb dX6_isJunction_14 (by decide) ?_
      subst hQ
      exact W.zret (ty := .boolean) hx hb hr (by decide) (gRi0 (wf := _) hA0 hsz hw hP hD hS) hS.2.2 dX6_isJunction_15
    · have hw := hw.2 c_7
      refine lv_iconst (v := 1) hx hb dX6_isJunction_10 (by decide) ?_
      refine lv_goto (tgt := 15) hx hb dX6_isJunction_11 (by decide) ?_
      subst hQ
      exact W.zret (ty := .boolean) hx hb hr (by decide) (gRi0 (wf := _) hA0 hsz hw hP hD hS) hS.2.2 dX6_isJunction_15
