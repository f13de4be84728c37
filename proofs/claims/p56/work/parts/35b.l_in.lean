/-! contract: by program -/
abbrev rmL_in : Room := { frames := 2, cells := 0, slots := 0, locals := 123 }
set_option maxHeartbeats 8000000 in
set_option maxRecDepth 100000 in
theorem ctL_in (l : Launch) (hl0 : l.stackTraces = false) (g : GG) (t : GT) (sz : Nat) (z_len : Nat) (z_txt : Nat → Int32) (hgz : t.1 61 = z_len ∧ zxs t = z_txt) (x1 : Int32) (x2 : Int32) {post : Int32 → Prop} (hw : wpL_in z_len z_txt x1 x2 post) :
    Met l yL_in wsB_L_in rmL_in (gPL g t sz (List.flatten ([] : List va_W)) [.ref (t.1 60), .int x1, .int x2]) (gQi0 post (gB g (List.flatten ([] : List va_W)) sz (List.flatten ([] : List va_W))) (va_A (List.flatten ([] : List va_W)) sz)) 0 0 (va_A (List.flatten ([] : List va_W)) sz) := by
  refine gOfL (cc := cL_in) (maxL := 3) (ret := (some .int)) (by decide) rfl (Nat.le_of_ble_eq_true rfl) ?_
  intro p e s m below meth c ls Q A hQ hx hb hr hml hts hown hlocks hE hA0 hsz hP hD hA hS hl hX hN
  have hzs := hX.1.2.2.2.2.2.2.2.2.2
  have hzs : va_X (t.1 60) z_len z_txt s s.heap ∧ t.1 60 < s.heap.size ∧ ¬ A (t.1 60) := by rw [← hgz.1, ← hgz.2]; exact hX.1.2.2.2.2.2.2.2.2.2
  have hl : lv_has ls 3 [(0, .ref (t.1 60)), (1, .int x1), (2, .int x2)] := hl
  refine lv_aload_n hx hb dL_in_0 rfl (lv_at hl 0 rfl) ?_
  refine lv_iload_n hx hb dL_in_1 rfl (lv_at hl 1 rfl) ?_
  refine gCi0 (bs := []) (wf := ([] : List va_W)) (gRunSL (As := [.ref (t.1 60), .int x1]) (rest := []) ⟨hx, hb, hml, hown, hts⟩ (ctL_cell l hl0 g t _ z_len z_txt hgz x1 hw) (va_cwS 2 hts (goodF gS_L_cell) rfl rfl rfl (by decide +kernel) ⟨Nat.le_of_ble_eq_true rfl, Nat.le_of_ble_eq_true rfl⟩) hE hN hX hS (gFree (bs := []) hD hS hA []) (gSub (bs := []) hP []) (gDSub (bs := []) hD [] rfl) rfl rfl hl.1 rfl (lv_room (Nat.le_of_ble_eq_true rfl)) dL_in_2 ⟨(by show _ ≤ 0; omega), (by show _ ≤ 0; omega)⟩) hP hD hS hA [] rfl rfl rfl (fun r1 H locs hw hP hD hS => ?_)
  have hP : va_P g.1 vwCl (List.flatten ([] : List va_W)) H := hP
  have hD : va_D A (List.flatten ([] : List va_W)) := hD
  refine lv_ldc (v := 2147483647) hx hb hown (hts _ (lwM tw613)) dL_in_5 ?_
  refine lv_iand hx hb dL_in_7 ?_
  refine lv_iload_n hx hb dL_in_8 rfl (lv_at hl 2 rfl) ?_
  have h2 := hw.1
  have hw := hw.2
  refine lv_irem hx hb dL_in_9 h2 ?_
  subst hQ
  refine W.widen (k := 0) (n := 0) (by omega) (by omega) ?_
  exact W.iret hx hb hr (gRi0 (wf := ([] : List va_W)) hA0 hsz hw hP hD hS) hS.2.2 dL_in_10
