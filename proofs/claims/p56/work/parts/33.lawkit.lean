/-! what the law's own methods stand on: the pre-state with what constructors need, calls, new objects, a grid of ints, bounds on rounds -/
def gNL (U : State) : Prop := gNestI U ∧ va_AOA .int U ∧ va_Nw (.castable "[B" "java/lang/Cloneable") U
theorem gNL.warm {s U : State} (hW : s.WarmedH U.vm) (h : gNL s) : gNL U := ⟨h.1.warm hW, h.2.1.moved hW.alike, va_Nw.warmC hW h.2.2⟩
theorem gNL.same {u U : State} (hv : u.vm = U.vm) (h : gNL u) : gNL U := ⟨h.1.same hv, h.2.1.moved (by rw [hv]; exact Vm.Alike.refl U.vm), va_Nw.same rfl hv h.2.2⟩
def gPL (g : GG) (t : GT) (sz : Nat) (ws : va_W) (av : List Value) : Array Value → State → Prop := va_Pc av (fun U => U.heap.size = sz ∧ va_P g.1 vwCl ws U.heap ∧ gE g U ∧ va_D (fun _ => True) ws ∧ gX t (va_A ws sz) U U.heap ∧ gNL U)
theorem gPL.blind {g : GG} {t : GT} {sz : Nat} {ws : va_W} {av : List Value} : FrameBlind (gPL g t sz ws av) := fun a U gf mk h => ⟨h.1, h.2.1, h.2.2.1, gE.same (u := U) (U := U.calling gf mk a) rfl h.2.2.2.1, h.2.2.2.2.1, gX.same (u := U) (U := U.calling gf mk a) rfl h.2.2.2.2.2.1, gNL.same (u := U) (U := U.calling gf mk a) rfl h.2.2.2.2.2.2⟩
theorem gPL.of {g : GG} {t : GT} {ws : va_W} {av : List Value} {s : State} {H : Heap} {A B : Nat → Prop} {locs : List Loc} (hE : gE g s) (hN : gNL s) (hP : va_P g.1 vwCl ws H) (hD : va_D B ws) (hX : gX t A s s.heap) (hS : va_S A s.heap H locs) (hF : ∀ q, va_A ws H.size q → A q) : ∀ U : State, U.heap = H → s.WarmedH U.vm → gPL g t H.size ws av av.toArray U :=
  fun U hU hW => ⟨rfl, by rw [hU], by rw [hU]; exact hP, hE.warm hW, hD.weaken (fun _ _ _ _ => trivial), by exact hX.call hS hF hU hW, hN.warm hW⟩
theorem gMetL {l : Launch} {y : MethodName} {ws : List Cond} {rm : Room} {g : GG} {t : GT} {sz : Nat} {W0 : va_W} {av : List Value} {Qc : Array Value → State → Outcome → State → Prop} {mc ms : Nat} {free : Addr → Prop} (h : Met l y ws rm (gPX g t sz W0 av) Qc mc ms free) : Met l y ws rm (gPL g t sz W0 av) Qc mc ms free :=
  MetFree.mono h (fun a s hp => ⟨hp.1, hp.2.1, hp.2.2.1, hp.2.2.2.1, hp.2.2.2.2.1, hp.2.2.2.2.2.1⟩) (fun _ _ _ _ _ hk => hk) (fun a s o s' hp hq => hq)
theorem gOfL {l : Launch} {y : MethodName} {ws ws' : List Cond} {rm : Room} {g : GG} {t : GT} {sz : Nat} {wld : va_W} {av : List Value} {Qc : Array Value → State → Outcome → State → Prop} {mc ms : Nat} {cc : ByteArray} {maxL : Nat} {ret : Option FieldType}
    (hy : plainName y.cls = true) (hw : ws = Cond.code y cc maxL ret :: ws') (hlen : (lg_sl av).length ≤ maxL)
    (body : ∀ (p : Program) (e : Env) (s : State) (m : MethodId) (below : List Frame) (meth : Method) (c : Code) (ls : Array Slot) (Q : State → Prop) (A : Nat → Prop), Q = MQ below Qc av.toArray s mc ms A → p.tables.exec = Jvm.exec → c.code = cc → meth.sig.returnType = ret → c.maxLocals = maxL → (∀ w ∈ ws, w.before av.toArray s = true) → s.vm.findClass y.cls = some m.cls → meth.locks = false → gE g s → A = va_A wld sz → sz = s.heap.size → va_P g.1 vwCl wld s.heap → va_D A wld → (∀ q, s.heap.size ≤ q → A q) → va_S A s.heap s.heap [] → lv_has ls maxL (lv_args 0 av) → gX t A s s.heap → gNL s → W p l e rm s m av.toArray below meth c s.heap [] 0 0 Q (F0 m 0 ls [])) :
    Met l y ws rm (gPL g t sz wld av) Qc mc ms (va_A wld sz) := by
  refine Met.ofW (cc := cc) (maxL := maxL) (ret := ret) hy hw ?_
  intro p e s m args below meth c s₁ B hml hv
  obtain ⟨rfl, hsz, hP, hE, hD0, hX, hN⟩ := hv
  have hts := atoms_spec (ws := ws) B.pre
  have hown : s.vm.findClass y.cls = some m.cls := findClass_of_methodNamed B.named
  have hlocks := B.notSynchronized
  rw [lg_entry_eq]
  subst hsz
  exact body p e s m below meth c _ _ _ rfl B.exec B.bytes B.returns hml hts hown hlocks hE rfl rfl hP (hD0.self (sz := s.heap.size)) (fun q h => Or.inr h) va_S.rf (lv_entry av hlen) hX hN
theorem gOfLI {l : Launch} {y : MethodName} {ws ws' : List Cond} {rm : Room} {g : GG} {t : GT} {sz : Nat} {wld : va_W} {av : List Value} {Qc : Array Value → State → Outcome → State → Prop} {mc ms : Nat} {cc : ByteArray} {maxL : Nat} {ret : Option FieldType}
    (hy : plainName y.cls = true) (hw : ws = Cond.code y cc maxL ret :: ws') (hlen : (lg_sl av).length ≤ maxL)
    (body : ∀ (p : Program) (e : Env) (s : State) (m : MethodId) (below : List Frame) (meth : Method) (c : Code) (ls : Array Slot) (Q : State → Prop) (A : Nat → Prop), Q = MQ below Qc av.toArray s mc ms A → p.tables.exec = Jvm.exec → c.code = cc → meth.sig.returnType = ret → c.maxLocals = maxL → (∀ w ∈ ws, w.before av.toArray s = true) → s.vm.findClass y.cls = some m.cls → meth.locks = false → gE g s → A = va_A wld sz → sz = s.heap.size → va_P g.1 vwCl wld s.heap → va_D A wld → (∀ q, s.heap.size ≤ q → A q) → va_S A s.heap s.heap [] → lv_has ls maxL (lv_args 0 av) → gX t A s s.heap → gNL s → meth.name = y.name → W p l e rm s m av.toArray below meth c s.heap [] 0 0 Q (F0 m 0 ls [])) :
    Met l y ws rm (gPL g t sz wld av) Qc mc ms (va_A wld sz) := by
  refine Met.ofW (cc := cc) (maxL := maxL) (ret := ret) hy hw ?_
  intro p e s m args below meth c s₁ B hml hv
  obtain ⟨rfl, hsz, hP, hE, hD0, hX, hN⟩ := hv
  have hts := atoms_spec (ws := ws) B.pre
  have hown : s.vm.findClass y.cls = some m.cls := findClass_of_methodNamed B.named
  have hlocks := B.notSynchronized
  rw [lg_entry_eq]
  subst hsz
  exact body p e s m below meth c _ _ _ rfl B.exec B.bytes B.returns hml hts hown hlocks hE rfl rfl hP (hD0.self (sz := s.heap.size)) (fun q h => Or.inr h) va_S.rf (lv_entry av hlen) hX hN (name_of_methodNamed B.named B.method).1
section GLCALL
variable {p : Program} {l : Launch} {e : Env} {R : Room} {s : State} {m : MethodId} {args : Array Value} {below : List Frame} {meth : Method} {c : Code} {H : Heap} {locs : List Loc} {cells slots : Nat} {Q : State → Prop}
  {y : MethodName} {bytes cc : ByteArray} {maxL nL mc ms n index : Nat} {ret : Option FieldType} {ws : List Cond} {rm : Room} {Qc : Array Value → State → Outcome → State → Prop} {free : Addr → Prop} {Ts : List Cond} {own C : String} {b : Addr} {As rest : List Value} {gf : JFrame} {g : GG} {t : GT} {wc : va_W} {A B : Nat → Prop} {q : vw_C} {fs : List Value}
theorem gRunVL (S : CallFix p m c cc nL s args Ts own) (hM : Met l y ws rm (gPL g t H.size wc (.ref b :: As)) Qc mc ms free) (cw : CallW R s args own C index y bytes maxL ret ws rm mc ms n) (hE : gE g s) (hN : gNL s) (hX : gX t A s s.heap) (hS : va_S A s.heap H locs) (hF : ∀ q, va_A wc H.size q → A q) (hP : va_P g.1 vwCl wc H) (hD : va_D B wc) (q0 ci : Nat) (hc : vwCl[ci]? = some q) (hq : q.1 = C) (he : wc[q0]? = some (b, .inr (ci, fs)))
    (hg : gf.method = m) (hn : As.length = n) (hsize : gf.locals.size = nL) (hstack : gf.stack = As.reverse ++ .ref b :: rest) (hW : 2 * gf.monitorRoom + (rest.map fun v => v.category).sum ≤ 8) (hdg : decode cc gf.pc = .ok (.invokevirtual index, 3)) (hf : cells + mc ≤ R.cells ∧ slots + ms ≤ R.slots) :
    va_Run p l e R s m args below meth c H locs cells slots mc ms gf rest (Qc (Value.ref b :: As).toArray) (free) :=
  va_runV S hM cw ⟨gPL.blind, hq ▸ va_recv hE.1 hP hc he, gPL.of hE hN hP hD hX hS hF⟩ hg hn hsize hstack hW hdg hf
theorem gRunSL (S : CallFix p m c cc nL s args Ts own) (hM : Met l y ws rm (gPL g t H.size wc As) Qc mc ms free) (cw : CallB R s args own index y bytes maxL ret ws rm mc ms n ∧ (Cond.static y).before args s = true) (hE : gE g s) (hN : gNL s) (hX : gX t A s s.heap) (hS : va_S A s.heap H locs) (hF : ∀ q, va_A wc H.size q → A q) (hP : va_P g.1 vwCl wc H) (hD : va_D B wc)
    (hg : gf.method = m) (hn : As.length = n) (hsize : gf.locals.size = nL) (hstack : gf.stack = As.reverse ++ rest) (hW : 2 * gf.monitorRoom + (rest.map fun v => v.category).sum ≤ 8) (hdg : decode cc gf.pc = .ok (.invokestatic index, 3)) (hf : cells + mc ≤ R.cells ∧ slots + ms ≤ R.slots) :
    va_Run p l e R s m args below meth c H locs cells slots mc ms gf rest (Qc As.toArray) (free) :=
  va_runS S hM cw ⟨gPL.blind, gPL.of hE hN hP hD hX hS hF⟩ hg hn hsize hstack hW hdg hf
theorem gRunSWL {hh : List (Nat × Nat × Nat × Nat)} (S : CallFix p m c cc nL s args Ts own) (hM : Met l y ws rm (gPL g t H.size wc As) Qc mc ms free) (cw : vx_CSW R s args own index y bytes maxL ret hh ws rm mc ms n) (hE : gE g s) (hN : gNL s) (hX : gX t A s s.heap) (hS : va_S A s.heap H locs) (hF : ∀ q, va_A wc H.size q → A q) (hP : va_P g.1 vwCl wc H) (hD : va_D B wc)
    (hg : gf.method = m) (hn : As.length = n) (hsize : gf.locals.size = nL) (hstack : gf.stack = As.reverse ++ rest) (hW : 2 * gf.monitorRoom + (rest.map fun v => v.category).sum ≤ 8) (hdg : decode cc gf.pc = .ok (.invokestatic index, 3)) (hf : cells + mc ≤ R.cells ∧ slots + ms ≤ R.slots) :
    va_Run p l e R s m args below meth c H locs cells slots mc ms gf rest (Qc As.toArray) free :=
  vx_runSW S hM cw ⟨gPL.blind, gPL.of hE hN hP hD hX hS hF⟩ hg hn hsize hstack hW hdg hf
/-- a call whose answer is a new object -/
theorem gCn {S : Type} {pc : Nat} {ls : Array Slot} {st0 : List Value} {a : Array Value} {A0 : Nat → Prop} {H0 : Heap} {post : S → Prop} {ad : S → Nat} {bs : List va_W} {wf : S → List va_W}
    (hr : va_Run p l e R s m args below meth c H locs cells slots mc ms (F0 m pc ls st0) rest (va_Qr post (fun w a tt => a = ad w ∧ gB g wc H.size (List.flatten (wf w)) tt) (va_A wc H.size) a) (va_A wc H.size)) (hP : va_P g.1 vwCl bs.flatten H) (hD : va_D A0 bs.flatten) (hS : va_S A0 H0 H locs) (hA : ∀ q, H0.size ≤ q → A0 q) (is : List Nat) (hwc : (gPick bs is).flatten = wc) (hl : ∀ w, is.length = (wf w).length) (hn : va_nd is = true)
    (kk : ∀ (w : S) (H1 : Heap) (locs1 : List Loc), post w → va_P g.1 vwCl (gPut bs is (wf w)).flatten H1 → va_D A0 (gPut bs is (wf w)).flatten → va_S A0 H0 H1 locs1 → W p l e R s m args below meth c H1 locs1 (cells + mc) (slots + ms) Q (F0 m (pc + 3) ls (.ref (ad w) :: rest))) : W p l e R s m args below meth c H locs cells slots Q (F0 m pc ls st0) := by
  subst hwc
  have hF := gFree hD hS hA is
  refine va_callr hr hS (fun q _ h => hF q h) hF (fun w ra t H1 locs1 ht hvm hw hB hz1 hk1 hS => ?_)
  obtain ⟨rfl, hP1, hD1⟩ := hB
  rw [ht] at hP1
  obtain ⟨hP2, hD2⟩ := gJoin hP hD is _ (hl w) hn hk1 hF hP1 hD1
  exact kk w H1 locs1 hw hP2 hD2 hS
end GLCALL
theorem gRn {S : Type} {post : S → Prop} {g : GG} {wc : va_W} {sz : Nat} {wf : S → List va_W} {ad : S → Nat} {A : Nat → Prop} {s : State} {H : Heap} {locs : List Loc} {args : Array Value} {w : S} (hA : A = va_A wc sz) (hsz : sz = s.heap.size) (hw : post w) (hP : va_P g.1 vwCl (List.flatten (wf w)) H) (hD : va_D A (List.flatten (wf w))) (hS : va_S A s.heap H locs) :
    ∀ t : State, t.heap = H → s.WarmedH t.vm → va_Qr post (fun w a tt => a = ad w ∧ gB g wc sz (List.flatten (wf w)) tt) (va_A wc sz) args s (.returned (some (.ref (ad w)))) t :=
  fun t ht _ => ⟨⟨w, _, rfl, hw, rfl, by rw [ht]; exact hP, by rw [← hA]; exact hD⟩, by rw [← hA]; exact hS.F ht⟩
theorem gApp {D : va_G} {cl : List vw_C} {bs : List va_W} {x : Nat × va_E} {H : Heap} (h : va_P D cl (List.flatten bs ++ [x]) H) : va_P D cl (List.flatten (bs ++ [[x]])) H := by
  simpa only [List.flatten_append, List.flatten_cons, List.flatten_nil, List.append_nil] using h
theorem gAppD {A : Nat → Prop} {bs : List va_W} {x : Nat × va_E} (h : va_D A (List.flatten bs ++ [x])) : va_D A (List.flatten (bs ++ [[x]])) := by
  simpa only [List.flatten_append, List.flatten_cons, List.flatten_nil, List.append_nil] using h
theorem gPick_last {bs : List va_W} {b : va_W} : gPick (bs ++ [b]) [bs.length] = [b] := by
  simp [gPick]
theorem gPut_last {bs : List va_W} {b b' : va_W} : gPut (bs ++ [b]) [bs.length] [b'] = bs ++ [b'] := by
  simp [gPut, List.set_append]
/-! bounds on rounds -/
/-- what n rounds make, a each -/
def zbud (a : Nat) : Nat → Nat
  | 0 => 0
  | n + 1 => zbud a n + a
theorem zbud_le {a n N : Nat} (h : n ≤ N) : zbud a n ≤ zbud a N := by
  induction N with
  | zero =>
    have : n = 0 := by omega
    subst this
    exact Nat.le_refl _
  | succ N ih =>
    by_cases e : n = N + 1
    · subst e
      exact Nat.le_refl _
    · exact Nat.le_trans (ih (by omega)) (Nat.le_add_right _ _)
theorem zbud_s {a n x y : Nat} (h : x + zbud a (n + 1) ≤ y) : x + zbud a n + a ≤ y := by
  rw [Nat.add_assoc]
  exact h
/-! small numbers, unsigned shifts -/
theorem va_lt8 {i : Int32} (h : vp_in i 8) : i.toNatClampNeg < 8 := Nat.not_le.mp fun q => h (Or.inr q)
/-! a row behind a block; a grid of eight rows behind a block -/
theorem kAr_get {b : va_W} {g : GG} {at_ : Nat → Nat} {n : Nat} {f : Nat → Int32} : (List.flatten [b, kAr g at_ n f])[b.length]? = some (at_ 0, .inl (g.2 0, n, .inl f)) := by
  simp [kAr]
theorem kAr_set {b : va_W} {g : GG} {at_ : Nat → Nat} {n : Nat} {f f' : Nat → Int32} : (List.flatten [b, kAr g at_ n f]).set b.length (at_ 0, .inl (g.2 0, n, .inl f')) = List.flatten [b, kAr g at_ n f'] := by
  simp [kAr, List.set_append]
def kDd (g : GG) (at_ : Nat → Nat) (f : Nat → Nat → Int32) : va_W := [(at_ 0, .inl (g.2 5, 8, .inr (.inr (.inr (.inr (fun i => if i < 8 then some (at_ (1 + i)) else none)))))), (at_ 1, .inl (g.2 0, 8, .inl (f 0))), (at_ 2, .inl (g.2 0, 8, .inl (f 1))), (at_ 3, .inl (g.2 0, 8, .inl (f 2))), (at_ 4, .inl (g.2 0, 8, .inl (f 3))), (at_ 5, .inl (g.2 0, 8, .inl (f 4))), (at_ 6, .inl (g.2 0, 8, .inl (f 5))), (at_ 7, .inl (g.2 0, 8, .inl (f 6))), (at_ 8, .inl (g.2 0, 8, .inl (f 7)))]
theorem zEight {i : Nat} (h : i < 8) : i = 0 ∨ i = 1 ∨ i = 2 ∨ i = 3 ∨ i = 4 ∨ i = 5 ∨ i = 6 ∨ i = 7 := by omega
theorem kDd_gt {g : GG} {at_ : Nat → Nat} {f : Nat → Nat → Int32} {i : Nat} (hi : i < 8) : (kDd g at_ f)[1 + i]? = some (at_ (1 + i), .inl (g.2 0, 8, .inl (f i))) := by
  rcases zEight hi with rfl | rfl | rfl | rfl | rfl | rfl | rfl | rfl <;> rfl
theorem kDd_st {g : GG} {at_ : Nat → Nat} {f : Nat → Nat → Int32} {i j : Nat} {x : Int32} (hi : i < 8) : (kDd g at_ f).set (1 + i) (at_ (1 + i), .inl (g.2 0, 8, .inl (upd (f i) j x))) = kDd g at_ (zd_up f i j x) := by
  rcases zEight hi with rfl | rfl | rfl | rfl | rfl | rfl | rfl | rfl <;> rfl
theorem kDd_get {b : va_W} {g : GG} {at_ : Nat → Nat} {f : Nat → Nat → Int32} {i : Nat} (hi : i < 8) : (List.flatten [b, kDd g at_ f])[b.length + (1 + i)]? = some (at_ (1 + i), .inl (g.2 0, 8, .inl (f i))) := by
  simp only [List.flatten_cons, List.flatten_nil, List.append_nil]
  rw [List.getElem?_append_right (by omega), show b.length + (1 + i) - b.length = 1 + i by omega]
  exact kDd_gt hi
theorem kDd_set {b : va_W} {g : GG} {at_ : Nat → Nat} {f : Nat → Nat → Int32} {i j : Nat} {x : Int32} (hi : i < 8) : (List.flatten [b, kDd g at_ f]).set (b.length + (1 + i)) (at_ (1 + i), .inl (g.2 0, 8, .inl (upd (f i) j x))) = List.flatten [b, kDd g at_ (zd_up f i j x)] := by
  simp only [List.flatten_cons, List.flatten_nil, List.append_nil]
  rw [List.set_append_right _ _ (by omega), show b.length + (1 + i) - b.length = 1 + i by omega, kDd_st hi]
section GGRID
variable {p : Program} {l : Launch} {e : Env} {R : Room} {s : State} {m : MethodId} {args : Array Value} {below : List Frame} {meth : Method} {c : Code} {H : Heap} {locs : List Loc} {cells slots : Nat} {Q : State → Prop} {cc : ByteArray} {pc : Nat} {ls : Array Slot} {rest : List Value} {g : GG} {A : Nat → Prop} {H0 : Heap}
theorem kDd_ld (hx : p.tables.exec = Jvm.exec) (hb : c.code = cc) {b : va_W} {at_ : Nat → Nat} {f : Nat → Nat → Int32} (hE : gE g s) (hP : va_P g.1 vwCl (List.flatten [b, kDd g at_ f]) H) {i : Int32} (hin : vp_in i 8) (hdg : decode cc pc = .ok (.aaload, 1))
    (kk : W p l e R s m args below meth c H locs cells slots Q (F0 m (pc + 1) ls (.ref (at_ (1 + i.toNatClampNeg)) :: rest))) : W p l e R s m args below meth c H locs cells slots Q (F0 m pc ls (.int i :: .ref (at_ 0) :: rest)) := by
  have hlt : i.toNatClampNeg < 8 := va_lt8 hin
  have hg : (List.flatten [b, kDd g at_ f])[b.length]? = some (at_ 0, .inl (g.2 5, 8, .inr (.inr (.inr (.inr (fun i => if i < 8 then some (at_ (1 + i)) else none)))))) := by
    simp only [List.flatten_cons, List.flatten_nil, List.append_nil]
    rw [List.getElem?_append_right (by omega), Nat.sub_self]
    rfl
  exact W.aald (v := .ref (at_ (1 + i.toNatClampNeg))) (ty := .array .int) hx hb (hP _ _ hg) ((hE.1.2 5 _ rfl).1 8 (fun j => va_rf (if j < 8 then some (at_ (1 + j)) else none))) rfl (fun q => by cases q) (by show ¬ (i < 0 ∨ (arrV _ _ _).slots.size ≤ _); rw [arrV_size]; exact hin) (by show (arrV _ _ _).slots[_]? = _; rw [arrV_read _ _ hlt]; dsimp only; rw [if_pos hlt]; rfl) rfl rfl hdg kk
/-- new int[8][8] -/
theorem zz_grid {own : String} {index : Nat} {bs : List va_W} (hx : p.tables.exec = Jvm.exec) (hb : c.code = cc) (hown : s.vm.findClass own = some m.cls) (hlk : (Cond.classLink own index "[[I").before args s = true) (hover : va_AOA .int s) (harr : (Cond.arrayClass .int).before args s = true) (hE : gE g s) (hP : va_P g.1 vwCl (List.flatten bs) H) (hD : va_D A (List.flatten bs)) (hS : va_S A H0 H locs) (hA : ∀ q, H0.size ≤ q → A q) (hc : cells + (1 + 8) ≤ R.cells) (hs : slots + (8 + 8 * 8) ≤ R.slots) (hdg : decode cc pc = .ok (.multianewarray index 2, 4))
    (kk : ∀ (at_ : Nat → Nat) (H1 : Heap), va_P g.1 vwCl (List.flatten (bs ++ [kDd g at_ (fun _ _ => 0)])) H1 → va_D A (List.flatten (bs ++ [kDd g at_ (fun _ _ => 0)])) → va_S A H0 H1 locs → W p l e R s m args below meth c H1 locs (cells + 9) (slots + 72) Q (F0 m (pc + 4) ls (.ref (at_ 0) :: rest))) : W p l e R s m args below meth c H locs cells slots Q (F0 m pc ls (.int 8 :: .int 8 :: rest)) := by
  have e0 : va_pl [] (fun _ => (.inl (g.2 0, (8, .inl (fun _ => 0))) : va_E)) = [] := rfl
  have hcy : s.vm.findClass (FieldType.array .int).toString = some (g.2 0) := (hE.1.2 0 _ rfl).2
  refine va_mna (X := List.flatten bs) (L := []) (f := fun _ => (.inl (g.2 0, (8, .inl (fun _ => 0))) : va_E)) (own := own) (index := index) (ty := .int) (N' := 8) (K' := 8) (z := (8, .inl (fun _ => 0))) hx hb hown hlk hover harr hcy hE.1 (by rw [e0, List.append_nil]; exact hP) (by rw [e0, List.append_nil]; exact hD) hS hA (by decide) (by decide) (by decide) (by decide) (by decide) (by decide) (by decide) rfl rfl hc hs (fun _ => rfl) hdg (fun q r cA H1 _ _ hK hP1 hD1 hS1 => ?_)
  have hcA : cA = g.2 5 := gByte hE hK (k := 5) rfl Iff.rfl Iff.rfl
  subst hcA
  have hl : (List.flatten bs ++ [(q, (.inl (g.2 5, 8, .inr (.inr (.inr (.inr (fun i => if i < 8 then some (r i) else none))))) : va_E))]) ++ va_pl ([] ++ (List.range 8).map r) (vr_up (fun _ => (.inl (g.2 0, (8, .inl (fun _ => 0))) : va_E)) ((List.range 8).map r) (.inl (g.2 0, (8, .inl (fun _ => 0))))) = List.flatten (bs ++ [kDd g (fun k => if k = 0 then q else r (k - 1)) (fun _ _ => 0)]) := by
    rw [← vr_rows (fun a _ h => absurd h List.not_mem_nil), e0]
    have ef : (fun i => if i < 8 then some (r i) else none) = (fun i => if i < 8 then some ((fun k => if k = 0 then q else r (k - 1)) (1 + i)) else none) := by
      funext i
      by_cases h : i < 8
      · rw [if_pos h, if_pos h]
        show some (r i) = some (if 1 + i = 0 then q else r (1 + i - 1))
        rw [if_neg (by omega), show 1 + i - 1 = i by omega]
      · rw [if_neg h, if_neg h]
    rw [ef]
    simp only [List.flatten_append, List.flatten_cons, List.flatten_nil, List.append_nil, List.nil_append, List.append_assoc]
    rfl
  rw [hl] at hP1 hD1
  exact kk _ H1 hP1 hD1 hS1
end GGRID
