/-! what the start gives: by program (wip/p56/gen/start56.py) -/
theorem z_of (x : Int32) : Int32.ofNat x.toBitVec.toNat = x := by
  apply Int32.toBitVec_inj.mp
  simp
def sL : List Cond := flatC (Jvm.Cond.and given_1 narrow_1)
theorem sL_at {args : Array Value} {s : State} (h : (Jvm.Cond.and given_1 narrow_1).before args s = true) (k : Nat) {w : Cond} (e : sL[k]? = some w) : w.before args s = true := flat_of_before _ h w (List.mem_of_getElem? e)
theorem gStr_of {args : Array Value} {s : State} {tm : Term} {n : Nat} {f : Nat → Int32} {A : Nat → Prop} (hN : n < 2 ^ 31) (hex : (Cond.exactly tm "java/lang/String").before args s = true) (hco : (Cond.eq (.field tm "java/lang/String" "coder" "B") (.int 0)).before args s = true)
    (har : (Cond.arrayOf (.field tm "java/lang/String" "value" "[B") .byte).before args s = true) (hle : (Cond.eq (.length (.field tm "java/lang/String" "value" "[B")) (.int (Int32.ofNat n))).before args s = true)
    (hel : ∀ j : Nat, j < n → (Cond.eq (.elem (.field tm "java/lang/String" "value" "[B") (.int (Int32.ofNat j))) (.int (f j))).before args s = true) (hA : ∀ a : Nat, a < s.heap.size → ¬ A a) :
    ∃ q : Nat × Nat, tm.eval args s none [] s = some (.ref q.1) ∧ gStr q.1 q.2 n f A s s.heap := by
  obtain ⟨a, c, cA, kA, q1, q2, q3, q4, q5, q6, -⟩ := Cond.exactly_spec (args := args) (first := s) (o := none) (s := s) (idx := []) (t := tm) (cls := "java/lang/String") hex
  obtain ⟨t, ht, hT⟩ := va_Tof (f := fun j => .int (f j)) (A := A) hN har (va_eqt hle) (fun j hj => va_eqt (hel j hj)) hA
  exact ⟨(a, t), q1, ⟨cA, q3, q5, by rw [q6]; exact q2, hA a (Array.getElem?_eq_some_iff.mp q3).1⟩, vk_OFof q1 (va_eqt hco) hA, vk_OFof q1 ht hA, hT⟩
theorem s_ref {args : Array Value} {s : State} {tm : Term} {C : String} (hex : (Cond.exactly tm C).before args s = true) : ∃ a : Nat, tm.eval args s none [] s = some (.ref a) := by
  obtain ⟨a, c, cA, kA, q1, q2, q3, q4, q5, q6, -⟩ := Cond.exactly_spec (args := args) (first := s) (o := none) (s := s) (idx := []) (t := tm) (cls := C) hex
  exact ⟨a, q1⟩
def sOw : List (String × Nat × Nat) := [(RX3, 22, 1203), (RX3, 24, 1220), (RX3, 26, 1232), (RX3, 28, 1245), (RX3, 30, 1257), (RX3, 32, 1267), (RX3, 34, 1277), (RX3, 36, 1287), (RX3, 38, 1297), (RL, 148, 1074), (RL, 157, 1083), (RL, 159, 1094), (RL, 165, 1099), (RL, 167, 1109), (RL, 169, 1119), (RL, 171, 1129), (RL, 171, 1129), (RL, 171, 1129), (RX6, 316, 411)]
def sTm (i : Nat) : Term := .string (sOw.getD i ("", 0, 0)).1 (sOw.getD i ("", 0, 0)).2.1
def sPl (i : Nat) : Nat := (sOw.getD i ("", 0, 0)).2.2
theorem sP1 : ∀ i : Nat, i < 19 → sL[sPl i]? = some (.exactly (sTm i) "java/lang/String") := by decide +kernel
theorem sP2 : ∀ i : Nat, i < 19 → sL[sPl i + 1]? = some (.eq (.field (sTm i) "java/lang/String" "coder" "B") (.int 0)) := by decide +kernel
theorem sP3 : ∀ i : Nat, i < 19 → sL[sPl i + 2]? = some (.arrayOf (.field (sTm i) "java/lang/String" "value" "[B") .byte) := by decide +kernel
theorem sP4 : ∀ i : Nat, i < 19 → sL[sPl i + 3]? = some (.eq (.length (.field (sTm i) "java/lang/String" "value" "[B")) (.int (Int32.ofNat (gLen.getD i 0)))) := by decide +kernel
theorem sP5 : ∀ i : Nat, i < 19 → ∀ j : Nat, j < gLen.getD i 0 → sL[sPl i + 4 + j]? = some (.eq (.elem (.field (sTm i) "java/lang/String" "value" "[B") (.int (Int32.ofNat j))) (.int ((gByt.getD i []).getD j 0))) := by decide +kernel
theorem sP6 : ∀ i : Nat, i < 19 → gLen.getD i 0 < 2 ^ 31 := by decide +kernel
theorem sDOnes : ∀ j : Nat, j < 100 → sL[14 + j]? = some (.eq (.elem (.static "java/lang/Integer" "DigitOnes" "[B") (.int (Int32.ofNat j))) (.int (gOnes j))) := by decide +kernel
theorem sDTens : ∀ j : Nat, j < 100 → sL[117 + j]? = some (.eq (.elem (.static "java/lang/Integer" "DigitTens" "[B") (.int (Int32.ofNat j))) (.int (gTens j))) := by decide +kernel
theorem s_msg {args : Array Value} {s : State} (hts : ∀ w ∈ lw_tbl2, w.before args s = true) (hgv : (Jvm.Cond.and given_1 narrow_1).before args s = true) : ∀ q ∈ gMsg, ∃ a, vk_R q.1 q.2.1 q.2.2 a s := by
  have one : ∀ (w1 : String) (i : Nat) (tx : String) (k : Nat), (Cond.stringRef w1 i tx).before args s = true → sL[k]? = some (.exactly (.string w1 i) "java/lang/String") → ∃ a, vk_R w1 i tx a s := by
    intro w1 i tx k h1 h2
    obtain ⟨a, ha⟩ := s_ref (sL_at hgv k h2)
    exact ⟨a, vk_R.of h1 ha⟩
  unfold gMsg
  refine List.forall_mem_cons.mpr ⟨?_, List.forall_mem_cons.mpr ⟨?_, List.forall_mem_cons.mpr ⟨?_, List.forall_mem_cons.mpr ⟨?_, List.forall_mem_cons.mpr ⟨?_, List.forall_mem_cons.mpr ⟨?_, List.forall_mem_cons.mpr ⟨?_, List.forall_mem_cons.mpr ⟨?_, List.forall_mem_cons.mpr ⟨?_, List.forall_mem_cons.mpr ⟨?_, List.forall_mem_cons.mpr ⟨?_, List.forall_mem_cons.mpr ⟨?_, List.forall_mem_cons.mpr ⟨?_, List.forall_mem_cons.mpr ⟨?_, List.forall_mem_cons.mpr ⟨?_, List.forall_mem_cons.mpr ⟨?_, List.forall_mem_cons.mpr ⟨?_, List.forall_mem_cons.mpr ⟨?_, List.forall_mem_cons.mpr ⟨?_, List.forall_mem_cons.mpr ⟨?_, List.forall_mem_cons.mpr ⟨?_, List.forall_mem_cons.mpr ⟨?_, List.forall_mem_cons.mpr ⟨?_, List.forall_mem_cons.mpr ⟨?_, List.forall_mem_cons.mpr ⟨?_, List.forall_mem_cons.mpr ⟨?_, List.forall_mem_cons.mpr ⟨?_, List.forall_mem_cons.mpr ⟨?_, List.forall_mem_cons.mpr ⟨?_, List.forall_mem_cons.mpr ⟨?_, fun _ h => absurd h List.not_mem_nil⟩⟩⟩⟩⟩⟩⟩⟩⟩⟩⟩⟩⟩⟩⟩⟩⟩⟩⟩⟩⟩⟩⟩⟩⟩⟩⟩⟩⟩⟩
  · exact one _ _ _ 837 (hts _ (lwT5 (List.mem_of_getElem? (i := 85) rfl))) (by decide +kernel)
  · exact one _ _ _ 857 (hts _ (lwT5 (List.mem_of_getElem? (i := 86) rfl))) (by decide +kernel)
  · exact one _ _ _ 918 (hts _ (lwT5 (List.mem_of_getElem? (i := 87) rfl))) (by decide +kernel)
  · exact one _ _ _ 974 (hts _ (lwT5 (List.mem_of_getElem? (i := 104) rfl))) (by decide +kernel)
  · exact one _ _ _ 435 (hts _ (lwT3 (List.mem_of_getElem? (i := 43) rfl))) (by decide +kernel)
  · exact one _ _ _ 471 (hts _ (lwT3 (List.mem_of_getElem? (i := 53) rfl))) (by decide +kernel)
  · exact one _ _ _ 417 (hts _ (lwT2 (List.mem_of_getElem? (i := 229) rfl))) (by decide +kernel)
  · exact one _ _ _ 1052 (hts _ (lwT5 (List.mem_of_getElem? (i := 142) rfl))) (by decide +kernel)
  · exact one _ _ _ 290 (hts _ (lwT1 (List.mem_of_getElem? (i := 85) rfl))) (by decide +kernel)
  · exact one _ _ _ 997 (hts _ (lwT5 (List.mem_of_getElem? (i := 121) rfl))) (by decide +kernel)
  · exact one _ _ _ 1021 (hts _ (lwT5 (List.mem_of_getElem? (i := 122) rfl))) (by decide +kernel)
  · exact one _ _ _ 506 (hts _ (lwT3 (List.mem_of_getElem? (i := 81) rfl))) (by decide +kernel)
  · exact one _ _ _ 537 (hts _ (lwT3 (List.mem_of_getElem? (i := 92) rfl))) (by decide +kernel)
  · exact one _ _ _ 584 (hts _ (lwT3 (List.mem_of_getElem? (i := 110) rfl))) (by decide +kernel)
  · exact one _ _ _ 619 (hts _ (lwT3 (List.mem_of_getElem? (i := 122) rfl))) (by decide +kernel)
  · exact one _ _ _ 655 (hts _ (lwT3 (List.mem_of_getElem? (i := 215) rfl))) (by decide +kernel)
  · exact one _ _ _ 1387 (hts _ (lwT6 (List.mem_of_getElem? (i := 84) rfl))) (by decide +kernel)
  · exact one _ _ _ 1457 (hts _ (lwT6 (List.mem_of_getElem? (i := 140) rfl))) (by decide +kernel)
  · exact one _ _ _ 688 (hts _ (lwT4 (List.mem_of_getElem? (i := 6) rfl))) (by decide +kernel)
  · exact one _ _ _ 1415 (hts _ (lwT6 (List.mem_of_getElem? (i := 104) rfl))) (by decide +kernel)
  · exact one _ _ _ 1437 (hts _ (lwT6 (List.mem_of_getElem? (i := 116) rfl))) (by decide +kernel)
  · exact one _ _ _ 1477 (hts _ (lwT6 (List.mem_of_getElem? (i := 189) rfl))) (by decide +kernel)
  · exact one _ _ _ 704 (hts _ (lwT4 (List.mem_of_getElem? (i := 29) rfl))) (by decide +kernel)
  · exact one _ _ _ 752 (hts _ (lwT4 (List.mem_of_getElem? (i := 37) rfl))) (by decide +kernel)
  · exact one _ _ _ 1141 (hts _ (lwT5 (List.mem_of_getElem? (i := 178) rfl))) (by decide +kernel)
  · exact one _ _ _ 1174 (hts _ (lwT5 (List.mem_of_getElem? (i := 179) rfl))) (by decide +kernel)
  · exact one _ _ _ 1307 (hts _ (lwT6 (List.mem_of_getElem? (i := 4) rfl))) (by decide +kernel)
  · exact one _ _ _ 1353 (hts _ (lwT6 (List.mem_of_getElem? (i := 17) rfl))) (by decide +kernel)
  · exact one _ _ _ 785 (hts _ (lwT4 (List.mem_of_getElem? (i := 45) rfl))) (by decide +kernel)
  · exact one _ _ _ 813 (hts _ (lwT4 (List.mem_of_getElem? (i := 61) rfl))) (by decide +kernel)
theorem s_txt {args : Array Value} {s : State} {t1 : Nat → Nat} (hts : ∀ w ∈ lw_tbl2, w.before args s = true) (h : ∀ i : Nat, i < 19 → (sTm i).eval args s none [] s = some (.ref (t1 i))) : ∀ q ∈ gTxt, vk_R q.1 q.2.1 q.2.2.1 (t1 q.2.2.2) s := by
  unfold gTxt
  refine List.forall_mem_cons.mpr ⟨?_, List.forall_mem_cons.mpr ⟨?_, List.forall_mem_cons.mpr ⟨?_, List.forall_mem_cons.mpr ⟨?_, List.forall_mem_cons.mpr ⟨?_, List.forall_mem_cons.mpr ⟨?_, List.forall_mem_cons.mpr ⟨?_, List.forall_mem_cons.mpr ⟨?_, List.forall_mem_cons.mpr ⟨?_, List.forall_mem_cons.mpr ⟨?_, List.forall_mem_cons.mpr ⟨?_, List.forall_mem_cons.mpr ⟨?_, List.forall_mem_cons.mpr ⟨?_, List.forall_mem_cons.mpr ⟨?_, List.forall_mem_cons.mpr ⟨?_, List.forall_mem_cons.mpr ⟨?_, List.forall_mem_cons.mpr ⟨?_, List.forall_mem_cons.mpr ⟨?_, List.forall_mem_cons.mpr ⟨?_, fun _ h => absurd h List.not_mem_nil⟩⟩⟩⟩⟩⟩⟩⟩⟩⟩⟩⟩⟩⟩⟩⟩⟩⟩⟩
  · exact vk_R.of (hts _ (lwT5 (List.mem_of_getElem? (i := 199) rfl))) (h 0 (by decide))
  · exact vk_R.of (hts _ (lwT5 (List.mem_of_getElem? (i := 200) rfl))) (h 1 (by decide))
  · exact vk_R.of (hts _ (lwT5 (List.mem_of_getElem? (i := 201) rfl))) (h 2 (by decide))
  · exact vk_R.of (hts _ (lwT5 (List.mem_of_getElem? (i := 202) rfl))) (h 3 (by decide))
  · exact vk_R.of (hts _ (lwT5 (List.mem_of_getElem? (i := 203) rfl))) (h 4 (by decide))
  · exact vk_R.of (hts _ (lwT5 (List.mem_of_getElem? (i := 204) rfl))) (h 5 (by decide))
  · exact vk_R.of (hts _ (lwT5 (List.mem_of_getElem? (i := 205) rfl))) (h 6 (by decide))
  · exact vk_R.of (hts _ (lwT5 (List.mem_of_getElem? (i := 206) rfl))) (h 7 (by decide))
  · exact vk_R.of (hts _ (lwT5 (List.mem_of_getElem? (i := 207) rfl))) (h 8 (by decide))
  · exact vk_R.of (hts _ (lwT5 (List.mem_of_getElem? (i := 145) rfl))) (h 9 (by decide))
  · exact vk_R.of (hts _ (lwT5 (List.mem_of_getElem? (i := 148) rfl))) (h 10 (by decide))
  · exact vk_R.of (hts _ (lwT5 (List.mem_of_getElem? (i := 149) rfl))) (h 11 (by decide))
  · exact vk_R.of (hts _ (lwT5 (List.mem_of_getElem? (i := 151) rfl))) (h 12 (by decide))
  · exact vk_R.of (hts _ (lwT5 (List.mem_of_getElem? (i := 152) rfl))) (h 13 (by decide))
  · exact vk_R.of (hts _ (lwT5 (List.mem_of_getElem? (i := 153) rfl))) (h 14 (by decide))
  · exact vk_R.of (hts _ (lwT5 (List.mem_of_getElem? (i := 154) rfl))) (h 15 (by decide))
  · exact vk_R.of (hts _ (lwT5 (List.mem_of_getElem? (i := 154) rfl))) (h 16 (by decide))
  · exact vk_R.of (hts _ (lwT5 (List.mem_of_getElem? (i := 154) rfl))) (h 17 (by decide))
  · exact vk_R.of (hts _ (lwT2 (List.mem_of_getElem? (i := 213) rfl))) (h 18 (by decide))
theorem s_nw {args : Array Value} {s : State} (hts : ∀ w ∈ lw_tbl2, w.before args s = true) : ∀ w ∈ gNw, va_Nw w s := by
  unfold gNw gDecl gEx
  refine List.forall_mem_append.mpr ⟨?_, ?_⟩
  · refine List.forall_mem_cons.mpr ⟨va_Nw.of (A := args) rfl (hts _ (lwT1 (List.mem_of_getElem? (i := 42) rfl))), List.forall_mem_cons.mpr ⟨va_Nw.of (A := args) rfl (hts _ (lwT1 (List.mem_of_getElem? (i := 44) rfl))), List.forall_mem_cons.mpr ⟨va_Nw.of (A := args) rfl (hts _ (lwT1 (List.mem_of_getElem? (i := 46) rfl))), fun _ h => absurd h List.not_mem_nil⟩⟩⟩
  · refine List.forall_mem_cons.mpr ⟨va_Nw.of (A := args) rfl (hts _ (lwT1 (List.mem_of_getElem? (i := 40) rfl))), List.forall_mem_cons.mpr ⟨va_Nw.of (A := args) rfl (hts _ (lwT2 (List.mem_of_getElem? (i := 100) rfl))), List.forall_mem_cons.mpr ⟨va_Nw.of (A := args) rfl (hts _ (lwT3 (List.mem_of_getElem? (i := 46) rfl))), List.forall_mem_cons.mpr ⟨va_Nw.of (A := args) rfl (hts _ (lwT3 (List.mem_of_getElem? (i := 85) rfl))), List.forall_mem_cons.mpr ⟨va_Nw.of (A := args) rfl (hts _ (lwT3 (List.mem_of_getElem? (i := 239) rfl))), fun _ h => absurd h List.not_mem_nil⟩⟩⟩⟩⟩
def sN : List Cond := (sL.drop 225).take 63
theorem sN_at : ∀ x ∈ gEx, ∀ y ∈ gEx, x ≠ y → Cond.not (.castable x y) ∈ sN := by decide +kernel
theorem s_nc {args : Array Value} {s : State} (hgv : (Jvm.Cond.and given_1 narrow_1).before args s = true) : ∀ x ∈ gEx, ∀ y ∈ gEx, x ≠ y → va_Nc x y s :=
  fun x hx y hy h => va_Nc.of (flat_of_before _ hgv _ (List.mem_of_mem_drop (List.mem_of_mem_take (sN_at x hx y hy h))))
theorem start_x {args : Array Value} {s : State} {A : Nat → Prop} (hts : ∀ w ∈ lw_tbl2, w.before args s = true) (hgv : (Jvm.Cond.and given_1 narrow_1).before args s = true) (hA : ∀ a : Nat, a < s.heap.size → ¬ A a) {b L : Nat} {xs : Nat → Int32} (hXs : va_X b L xs s s.heap) (hbl : b < s.heap.size) : ∃ t : GT, gX t A s s.heap ∧ t.1 60 = b ∧ t.1 61 = L ∧ zxs t = xs := by
  have h0 : ∀ i : Nat, ∃ q : Nat × Nat, i < 19 → (sTm i).eval args s none [] s = some (.ref q.1) ∧ gStr q.1 q.2 (gLen.getD i 0) (fun j => (gByt.getD i []).getD j 0) A s s.heap := by
    intro i
    by_cases hi : i < 19
    · obtain ⟨q, h⟩ := gStr_of (A := A) (f := fun j => (gByt.getD i []).getD j 0) (sP6 i hi) (sL_at hgv _ (sP1 i hi)) (sL_at hgv _ (sP2 i hi)) (sL_at hgv _ (sP3 i hi)) (sL_at hgv _ (sP4 i hi)) (fun j hj => sL_at hgv _ (sP5 i hi j hj)) hA
      exact ⟨q, fun _ => h⟩
    · exact ⟨(0, 0), fun h => absurd h hi⟩
  obtain ⟨ad, had⟩ := Classical.skolem.mp h0
  obtain ⟨p1, e1, T1⟩ := va_Tof (args := args) (s := s) (tm := .static "java/lang/Integer" "DigitOnes" "[B") (ty := .byte) (N := 100) (f := fun j => .int (gOnes j)) (A := A) (by decide) (sL_at hgv 12 (by decide +kernel)) (va_eqt (sL_at hgv 13 (by decide +kernel))) (fun j hj => va_eqt (sL_at hgv _ (sDOnes j hj))) hA
  obtain ⟨p2, e2, T2⟩ := va_Tof (args := args) (s := s) (tm := .static "java/lang/Integer" "DigitTens" "[B") (ty := .byte) (N := 100) (f := fun j => .int (gTens j)) (A := A) (by decide) (sL_at hgv 115 (by decide +kernel)) (va_eqt (sL_at hgv 116 (by decide +kernel))) (fun j hj => va_eqt (sL_at hgv _ (sDTens j hj))) hA
  have hxs : (fun j => Int32.ofNat ((xs (1000 + j - 1000)).toBitVec.toNat)) = xs := by
    funext j
    rw [Nat.add_sub_cancel_left]
    exact z_of _
  have hz : zxs (fun i => if i = 60 then b else if i = 61 then L else (ad i).1, fun i => if i = 100 then p1 else if i = 101 then p2 else if 1000 ≤ i then (xs (i - 1000)).toBitVec.toNat else (ad i).2) = xs := by
    refine Eq.trans ?_ hxs
    funext j
    show Int32.ofNat (if 1000 + j = 100 then p1 else if 1000 + j = 101 then p2 else if 1000 ≤ 1000 + j then (xs (1000 + j - 1000)).toBitVec.toNat else (ad (1000 + j)).2) = _
    rw [if_neg (by omega), if_neg (by omega), if_pos (by omega)]
  refine ⟨(fun i => if i = 60 then b else if i = 61 then L else (ad i).1, fun i => if i = 100 then p1 else if i = 101 then p2 else if 1000 ≤ i then (xs (i - 1000)).toBitVec.toNat else (ad i).2), ⟨⟨fun i hi => ?_, ?_, ?_, ?_, ?_, ?_, ?_, ?_, ?_, ?_⟩, ⟨s_msg hts hgv, s_txt hts (fun i hi => ?_)⟩, s_nw hts, s_nc hgv⟩, rfl, rfl, hz⟩
  · have h := (had i hi).2
    show gStr (if i = 60 then b else if i = 61 then L else (ad i).1) (if i = 100 then p1 else if i = 101 then p2 else if 1000 ≤ i then (xs (i - 1000)).toBitVec.toNat else (ad i).2) _ _ _ _ _
    rw [if_neg (by omega), if_neg (by omega), if_neg (by omega), if_neg (by omega), if_neg (by omega)]
    exact h
  · exact vx_Zqof (hts _ (lwT1 (List.mem_of_getElem? (i := 67) rfl))) (hts _ (lwT1 (List.mem_of_getElem? (i := 12) rfl))) (sL_at hgv 4 (by decide +kernel)) hA
  · exact vx_Zqof (hts _ (lwT1 (List.mem_of_getElem? (i := 69) rfl))) (hts _ (lwT1 (List.mem_of_getElem? (i := 12) rfl))) (sL_at hgv 5 (by decide +kernel)) hA
  · exact va_Zof (hts _ (lwT1 (List.mem_of_getElem? (i := 135) rfl))) (hts _ (lwT1 (List.mem_of_getElem? (i := 10) rfl))) (va_eqt (sL_at hgv 6 (by decide +kernel))) hA
  · exact va_Zqof (hts _ (lwT1 (List.mem_of_getElem? (i := 221) rfl))) (hts _ (lwT1 (List.mem_of_getElem? (i := 25) rfl))) (sL_at hgv 7 (by decide +kernel)) hA
  · exact va_Zref (hts _ (lwT2 (List.mem_of_getElem? (i := 51) rfl))) (hts _ (lwT1 (List.mem_of_getElem? (i := 28) rfl))) e1 hA
  · exact T1
  · exact va_Zref (hts _ (lwT2 (List.mem_of_getElem? (i := 53) rfl))) (hts _ (lwT1 (List.mem_of_getElem? (i := 28) rfl))) e2 hA
  · exact T2
  · refine ⟨?_, hbl, hA b hbl⟩
    show va_X b L (zxs _) s s.heap
    rw [hz]
    exact hXs
  · show (sTm i).eval args s none [] s = some (.ref (if i = 60 then b else if i = 61 then L else (ad i).1))
    rw [if_neg (by omega), if_neg (by omega)]
    exact (had i hi).1
theorem s_kn {args : Array Value} {s : State} (hts : ∀ w ∈ lw_tbl2, w.before args s = true) : ∀ q ∈ vwCl, ∃ (c : ClassId) (i : Nat → Nat), u_Kn s q.1 q.2.1 q.2.2 c i :=
  List.forall_mem_cons.mpr ⟨u_known (C := RJ0) (T := TJ0) (N := 4) (n := 4) hts (fun w hw => (gZ13 w hw).1) (hts _ (lwT2 (List.mem_of_getElem? (i := 67) rfl))), List.forall_mem_cons.mpr ⟨u_known (C := RJ4) (T := TJ4) (N := 4) (n := 4) hts (fun w hw => (gZ14 w hw).1) (hts _ (lwT1 (List.mem_of_getElem? (i := 126) rfl))), List.forall_mem_cons.mpr ⟨u_known (C := RJx00060) (T := TJx00060) (N := 6) (n := 6) hts (fun w hw => (gZ16 w hw).1) (hts _ (lwT2 (List.mem_of_getElem? (i := 164) rfl))), List.forall_mem_cons.mpr ⟨u_known (C := RJx7c733) (T := TJx7c733) (N := 6) (n := 6) hts (fun w hw => (gZ15 w hw).1) (hts _ (lwT1 (List.mem_of_getElem? (i := 121) rfl))), List.forall_mem_cons.mpr ⟨u_known (C := RX0) (T := TX0) (N := 3) (n := 3) hts (fun w hw => (gZ1 w hw).1) (hts _ (lwT3 (List.mem_of_getElem? (i := 31) rfl))), List.forall_mem_cons.mpr ⟨u_known (C := RX1) (T := TX1) (N := 3) (n := 3) hts (fun w hw => (gZ11 w hw).1) (hts _ (lwT3 (List.mem_of_getElem? (i := 162) rfl))), List.forall_mem_cons.mpr ⟨u_known (C := RX2) (T := TX2) (N := 6) (n := 6) hts (fun w hw => (gZ4 w hw).1) (hts _ (lwT4 (List.mem_of_getElem? (i := 153) rfl))), List.forall_mem_cons.mpr ⟨u_known (C := RX3) (T := TX3) (N := 4) (n := 4) hts (fun w hw => (gZ12 w hw).1) (hts _ (lwT5 (List.mem_of_getElem? (i := 8) rfl))), List.forall_mem_cons.mpr ⟨u_known (C := RX4) (T := TX4) (N := 9) (n := 9) hts (fun w hw => (gZ3 w hw).1) (hts _ (lwT3 (List.mem_of_getElem? (i := 231) rfl))), List.forall_mem_cons.mpr ⟨u_known (C := RX5) (T := TX5) (N := 11) (n := 11) hts (fun w hw => (gZ2 w hw).1) (hts _ (lwT3 (List.mem_of_getElem? (i := 141) rfl))), List.forall_mem_cons.mpr ⟨u_known (C := RX6) (T := TX6) (N := 10) (n := 10) hts (fun w hw => (gZ0 w hw).1) (hts _ (lwT4 (List.mem_of_getElem? (i := 23) rfl))), fun _ h => absurd h List.not_mem_nil⟩⟩⟩⟩⟩⟩⟩⟩⟩⟩⟩
theorem s_arr {args : Array Value} {s : State} {ty : FieldType} (h : (Cond.arrayClass ty).before args s = true) : ∃ cA : ClassId, ArrOfT s cA ty ∧ s.vm.findClass ("[" ++ ty.toString) = some cA := by
  obtain ⟨c, k, comp, h1, h2, h3⟩ := Cond.arrayClass_spec (args := args) (first := s) (o := none) (s := s) (idx := []) h
  exact ⟨c, fun n z => ⟨fun k h => (by cases h), k, h2, comp, h3⟩, h1⟩
theorem s_arrO {args : Array Value} {s : State} {C : String} (h : (Cond.arrayOver (.object C)).before args s = true) : ∃ cA : ClassId, ArrOfT s cA (.object C) ∧ va_RA s cA (.object C) := by
  obtain ⟨comp, c, k, h1, h2, h3, h4, h5⟩ := Cond.arrayOver_spec (args := args) (first := s) (o := none) (s := s) (idx := []) h
  exact ⟨c, fun n z => ⟨fun k h => (by cases h), k, h3, comp, h4⟩, k, comp, h3, h4, h1, h5⟩
theorem s_arrA {args : Array Value} {s : State} (h : (Cond.arrayOver (.array .int)).before args s = true) : ∃ cA : ClassId, ArrOfT s cA (.array .int) ∧ s.vm.findClass ("[" ++ (FieldType.array .int).toString) = some cA := by
  obtain ⟨comp, c, k, h1, h2, h3, h4, h5⟩ := zz_over (t := .int) (U := s) h
  exact ⟨c, fun n z => ⟨fun k h => (by cases h), k, h3, comp, h4⟩, h5⟩
theorem start_g {args : Array Value} {s : State} (hts : ∀ w ∈ lw_tbl2, w.before args s = true) : ∃ g : GG, gE g s := by
  have hC : ∀ k : Nat, ∃ d : ClassId × (Nat → Nat), ∀ q : vw_C, vwCl[k]? = some q → u_Kn s q.1 q.2.1 q.2.2 d.1 d.2 := by
    intro k
    cases e : vwCl[k]? with
    | none => exact ⟨(0, fun _ => 0), fun q h => by cases h⟩
    | some q0 =>
      obtain ⟨c, i, h⟩ := s_kn hts q0 (List.mem_of_getElem? e)
      exact ⟨(c, i), fun q hq => by cases hq; exact h⟩
  obtain ⟨dd, hdd⟩ := Classical.skolem.mp hC
  obtain ⟨c0, a0, r0⟩ := s_arr (ty := .int) (hts _ (lwT4 (List.mem_of_getElem? (i := 94) rfl)))
  obtain ⟨c1, a1, r1⟩ := s_arr (ty := .char) (hts _ (lwT4 (List.mem_of_getElem? (i := 151) rfl)))
  obtain ⟨c2, a2, r2⟩ := s_arr (ty := .boolean) (hts _ (lwT4 (List.mem_of_getElem? (i := 95) rfl)))
  obtain ⟨c3, a3, r3⟩ := s_arr (ty := .byte) (hts _ (lwT1 (List.mem_of_getElem? (i := 111) rfl)))
  obtain ⟨c4, a4, r4⟩ := s_arrO (C := RX5) (hts _ (lwT4 (List.mem_of_getElem? (i := 234) rfl)))
  obtain ⟨c5, a5, r5⟩ := s_arrA (hts _ (lwT6 (List.mem_of_getElem? (i := 127) rfl)))
  obtain ⟨c6, a6, r6⟩ := s_arr (ty := .int) (hts _ (lwT4 (List.mem_of_getElem? (i := 94) rfl)))
  refine ⟨((fun k => (dd k).1, fun k => (dd k).2), fun k => if k = 0 then c0 else if k = 1 then c1 else if k = 2 then c2 else if k = 3 then c3 else if k = 4 then c4 else if k = 5 then c5 else c6), ⟨fun k q h => hdd k q h, ?_⟩, ?_, ?_⟩
  · intro k q h
    have hm : q ∈ gTys (((fun k => (dd k).1, fun k => (dd k).2), fun k => if k = 0 then c0 else if k = 1 then c1 else if k = 2 then c2 else if k = 3 then c3 else if k = 4 then c4 else if k = 5 then c5 else c6) : GG) := List.mem_of_getElem? h
    revert hm q
    intro q h hm
    have key : ∀ q ∈ [(c0, FieldType.int), (c1, .char), (c2, .boolean), (c3, .byte), (c4, .object "SnowDispatcher$Town"), (c5, .array .int), (c6, .int)], ArrOfT s q.1 q.2 ∧ va_RA s q.1 q.2 :=
      List.forall_mem_cons.mpr ⟨⟨a0, r0⟩, List.forall_mem_cons.mpr ⟨⟨a1, r1⟩, List.forall_mem_cons.mpr ⟨⟨a2, r2⟩, List.forall_mem_cons.mpr ⟨⟨a3, r3⟩, List.forall_mem_cons.mpr ⟨⟨a4, r4⟩, List.forall_mem_cons.mpr ⟨⟨a5, r5⟩, List.forall_mem_cons.mpr ⟨⟨a6, r6⟩, fun _ h => absurd h List.not_mem_nil⟩⟩⟩⟩⟩⟩⟩
    exact key q hm
  · exact va_Nw.of (A := args) rfl (hts _ (lwT3 (List.mem_of_getElem? (i := 164) rfl)))
  · exact va_Nw.of (A := args) rfl (hts _ (lwT5 (List.mem_of_getElem? (i := 75) rfl)))
theorem start_n {args : Array Value} {s : State} (hts : ∀ w ∈ lw_tbl2, w.before args s = true) : gNL s :=
  ⟨⟨⟨va_Nw.of (A := args) rfl (hts _ (lwT4 (List.mem_of_getElem? (i := 80) rfl))), va_Nw.of (A := args) rfl (hts _ (lwT4 (List.mem_of_getElem? (i := 102) rfl))), va_Nw.of (A := args) rfl (hts _ (lwT4 (List.mem_of_getElem? (i := 154) rfl))), va_Nw.of (A := args) rfl (hts _ (lwT5 (List.mem_of_getElem? (i := 9) rfl)))⟩, va_AO.of (A := args) (hts _ (lwT4 (List.mem_of_getElem? (i := 234) rfl)))⟩, (hts _ (lwT6 (List.mem_of_getElem? (i := 127) rfl))), va_Nw.of (A := args) rfl (hts _ (lwT1 (List.mem_of_getElem? (i := 195) rfl)))⟩
