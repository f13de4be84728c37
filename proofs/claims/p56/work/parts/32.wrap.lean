/-! the law's wrappers: by program (wip/p56/gen/wrap56.py) -/
theorem goodIn_cc {w : Cond} {big a : List Cond} (h : w ∈ big ∧ ((w.onTables && w.keeps) = true ∨ ∃ ty, w = .arrayClass ty)) (ha : GoodIn big a) : GoodIn big (w :: a) := fun v hv => (List.mem_cons.mp hv).elim (fun e => e ▸ h) (ha v)
theorem gOfXW {l : Launch} {y : MethodName} {ws ws' : List Cond} {rm : Room} {g : GG} {t : GT} {sz : Nat} {wld : va_W} {av : List Value} {Qc : Array Value → State → Outcome → State → Prop} {mc ms : Nat} {cc : ByteArray} {maxL : Nat} {ret : Option FieldType} {hh : List (Nat × Nat × Nat × Nat)}
    (hy : plainName y.cls = true) (hw : ws = Cond.codeWith y cc maxL ret hh :: ws') (hlen : (lg_sl av).length ≤ maxL)
    (body : ∀ (p : Program) (e : Env) (s : State) (m : MethodId) (below : List Frame) (meth : Method) (c : Code) (ls : Array Slot) (Q : State → Prop) (A : Nat → Prop), Q = MQ below Qc av.toArray s mc ms A → p.tables.exec = Jvm.exec → c.code = cc → meth.sig.returnType = ret → c.maxLocals = maxL → (∀ w ∈ ws, w.before av.toArray s = true) → s.vm.findClass y.cls = some m.cls → meth.locks = false → gE g s → A = va_A wld sz → sz = s.heap.size → va_P g.1 vwCl wld s.heap → va_D A wld → (∀ q, s.heap.size ≤ q → A q) → va_S A s.heap s.heap [] → lv_has ls maxL (lv_args 0 av) → gX t A s s.heap → c.exceptionTable.toList = tableOf hh → W p l e rm s m av.toArray below meth c s.heap [] 0 0 Q (F0 m 0 ls [])) :
    Met l y ws rm (gPX g t sz wld av) Qc mc ms (va_A wld sz) := by
  refine va_MetW (cc := cc) (maxL := maxL) (ret := ret) (hh := hh) hy hw ?_
  intro p e s m args below meth c s₁ B hml hv
  obtain ⟨rfl, hsz, hP, hE, hD0, hX⟩ := hv
  have hts := atoms_spec (ws := ws) B.pre
  have hown : s.vm.findClass y.cls = some m.cls := findClass_of_methodNamed B.named
  have hlocks := B.notSynchronized
  have hT : c.exceptionTable.toList = tableOf hh := vx_table (x := y) B (hts _ (by rw [hw]; exact List.mem_cons_self))
  rw [lg_entry_eq]
  subst hsz
  exact body p e s m below meth c _ _ _ rfl B.exec B.bytes B.returns hml hts hown hlocks hE rfl rfl hP (hD0.self (sz := s.heap.size)) (fun q h => Or.inr h) va_S.rf (lv_entry av hlen) hX hT
theorem gX.cast {t : GT} {A : Nat → Prop} {s : State} {H : Heap} {args : Array Value} (h : gX t A s H) {E : String} (hE : E ∈ gEx) : (Cond.castable E E).before args s = true :=
  have h1 : Cond.castable E E ∈ gNw := List.mem_append_right _ (List.mem_map.mpr ⟨E, hE, rfl⟩)
  va_Nw.use (gNw_ot h1) (h.2.2.1 _ h1)
section GXT
variable {p : Program} {l : Launch} {e : Env} {R : Room} {s : State} {m : MethodId} {args : Array Value} {below : List Frame} {meth : Method} {c : Code} {H : Heap} {locs : List Loc} {cells slots : Nat} {Q : State → Prop}
  {y : MethodName} {bytes cc : ByteArray} {maxL nL mc ms n index : Nat} {ret : Option FieldType} {ws : List Cond} {rm : Room} {Qc : Array Value → State → Outcome → State → Prop} {XC : String → State → State → Prop} {free : Addr → Prop} {Ts : List Cond} {own C host : String} {b : Addr} {As rest : List Value} {gf : JFrame} {g : GG} {t : GT} {wc : va_W} {A B : Nat → Prop} {q : vw_C} {fs : List Value}
theorem gRunVT (S : CallFix p m c cc nL s args Ts own) (hM : vx_Met l y ws rm (gPX g t H.size wc (.ref b :: As)) Qc XC mc ms free) (cw : CallW R s args own C index y bytes maxL ret ws rm mc ms n) (hE : gE g s) (hX : gX t A s s.heap) (hS : va_S A s.heap H locs) (hF : ∀ q, va_A wc H.size q → A q) (hP : va_P g.1 vwCl wc H) (hD : va_D B wc) (q0 ci : Nat) (hc : vwCl[ci]? = some q) (hq : q.1 = C) (he : wc[q0]? = some (b, .inr (ci, fs)))
    (hg : gf.method = m) (hn : As.length = n) (hsize : gf.locals.size = nL) (hstack : gf.stack = As.reverse ++ .ref b :: rest) (hW : 2 * gf.monitorRoom + (rest.map fun v => v.category).sum ≤ 8) (hdg : decode cc gf.pc = .ok (.invokevirtual index, 3)) (hf : cells + mc ≤ R.cells ∧ slots + ms ≤ R.slots) :
    vx_Run p l e R s m args below meth c H locs cells slots mc ms gf rest (Qc (Value.ref b :: As).toArray) XC free :=
  vx_runV S hM cw ⟨gPX.blind, hq ▸ va_recv hE.1 hP hc he, gPX.of hE hP hD hX hS hF⟩ hg hn hsize hstack hW hdg hf
theorem gRunSW {hh : List (Nat × Nat × Nat × Nat)} (S : CallFix p m c cc nL s args Ts own) (hM : Met l y ws rm (gPX g t H.size wc As) Qc mc ms free) (cw : vx_CSW R s args own index y bytes maxL ret hh ws rm mc ms n) (hE : gE g s) (hX : gX t A s s.heap) (hS : va_S A s.heap H locs) (hF : ∀ q, va_A wc H.size q → A q) (hP : va_P g.1 vwCl wc H) (hD : va_D B wc)
    (hg : gf.method = m) (hn : As.length = n) (hsize : gf.locals.size = nL) (hstack : gf.stack = As.reverse ++ rest) (hW : 2 * gf.monitorRoom + (rest.map fun v => v.category).sum ≤ 8) (hdg : decode cc gf.pc = .ok (.invokestatic index, 3)) (hf : cells + mc ≤ R.cells ∧ slots + ms ≤ R.slots) :
    va_Run p l e R s m args below meth c H locs cells slots mc ms gf rest (Qc As.toArray) free :=
  vx_runSW S hM cw ⟨gPX.blind, gPX.of hE hP hD hX hS hF⟩ hg hn hsize hstack hW hdg hf
end GXT
theorem gXi1 {C1 : Type} {p : Program} {l : Launch} {e : Env} {R : Room} {s : State} {m : MethodId} {args : Array Value} {below : List Frame} {meth : Method} {c : Code} {H : Heap} {locs : List Loc} {cells slots : Nat} {Q : State → Prop} {pc : Nat} {ls : Array Slot} {rest st0 : List Value} {a : Array Value} {A0 : Nat → Prop} {H0 : Heap} {mc ms : Nat} {post : Int32 → C1 → Prop} {px : String → C1 → Prop} {g : GG} {bs : List va_W} {wc : va_W} {wf : C1 → List va_W}
    (hr : vx_Run p l e R s m args below meth c H locs cells slots mc ms (F0 m pc ls st0) rest (gQi1 post (fun c1 => gB g wc H.size (wf c1).flatten) (va_A wc H.size) a) (gXC1 px (fun c1 => gB g wc H.size (wf c1).flatten) (va_A wc H.size)) (va_A wc H.size)) (hP : va_P g.1 vwCl bs.flatten H) (hD : va_D A0 bs.flatten) (hS : va_S A0 H0 H locs) (hA : ∀ q, H0.size ≤ q → A0 q) (is : List Nat) (hwc : (gPick bs is).flatten = wc) (hl : ∀ (c1 : C1), is.length = (wf c1).length) (hn : va_nd is = true)
    (kx : ∀ (E : String) (ce : Cell) (q : Addr) (c1 : C1) (H1 : Heap) (locs1 : List Loc), px E c1 → va_P g.1 vwCl (gPut bs is (wf c1)).flatten H1 → va_D A0 (gPut bs is (wf c1)).flatten → va_S A0 H0 H1 locs1 → H1[q]? = some ce → ce.vm = .none → s.vm.findClass E = some ce.cls → vx_W p l e R s m args below meth c H1 locs1 (cells + mc) (slots + ms) Q (F0 m pc ls rest) q)
    (kk : ∀ (r : Int32) (c1 : C1) (H1 : Heap) (locs1 : List Loc), post r c1 → va_P g.1 vwCl (gPut bs is (wf c1)).flatten H1 → va_D A0 (gPut bs is (wf c1)).flatten → va_S A0 H0 H1 locs1 → W p l e R s m args below meth c H1 locs1 (cells + mc) (slots + ms) Q (F0 m (pc + 3) ls (.int r :: rest))) : W p l e R s m args below meth c H locs cells slots Q (F0 m pc ls st0) := by
  subst hwc
  have hF := gFree hD hS hA is
  have hr' : vx_Run p l e R s m args below meth c H locs cells slots mc ms (F0 m pc ls st0) rest (gQi1 post (fun c1 => gB g (gPick bs is).flatten H.size (wf c1).flatten) (va_A (gPick bs is).flatten H.size) a) (vx_X (S := String × (C1)) (fun u => px u.1 (u.2)) (fun E u t => E = u.1 ∧ gB g (gPick bs is).flatten H.size (wf (u.2)).flatten t) (va_A (gPick bs is).flatten H.size)) (va_A (gPick bs is).flatten H.size) := by
    intro T hT X
    rcases hr T hT X with h | ⟨q, st0, t, T', L, E, ce, h0, X', hL, e1, e2, hx, hrest⟩
    · exact Or.inl h
    · obtain ⟨c1, hp, hb, hF9⟩ := hx
      exact Or.inr ⟨q, st0, t, T', L, E, ce, h0, X', hL, e1, e2, ⟨(E, c1), hp, ⟨rfl, hb⟩, hF9⟩, hrest⟩
  refine vx_calli hr' hS (fun q _ h => hF q h) hF (fun q _ h => hF q h) (fun E ce q u t H1 locs1 ht hvm hp hB hz1 hk1 hS hc hcv hcl => ?_) (fun r w t H1 locs1 ht hvm hw hB hz1 hk1 hS => ?_)
  · obtain ⟨rfl, hP1, hD1⟩ := hB
    rw [ht] at hP1
    obtain ⟨hP2, hD2⟩ := gJoin hP hD is _ (hl (u.2)) hn hk1 hF hP1 hD1
    exact kx u.1 ce q (u.2) H1 locs1 hp hP2 hD2 hS hc hcv hcl
  · obtain ⟨hP1, hD1⟩ := hB
    rw [ht] at hP1
    obtain ⟨hP2, hD2⟩ := gJoin hP hD is _ (hl w) hn hk1 hF hP1 hD1
    exact kk r w H1 locs1 hw hP2 hD2 hS
