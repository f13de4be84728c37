/-! facts of the start: the texts, the statics that throwing and texts read; none of them in A -/
def gLen : List Nat := [13, 8, 9, 8, 6, 6, 6, 6, 6, 5, 7, 1, 6, 6, 6, 8, 8, 8, 2]
def gByt : List (List Int32) := [[115, 116, 114, 101, 101, 116, 32, 35, 32, 35, 32, 64, 35], [112, 108, 111, 117, 103, 104, 32, 35], [111, 114, 100, 101, 114, 32, 35, 32, 37], [99, 97, 110, 99, 101, 108, 32, 35], [115, 97, 108, 116, 32, 37], [108, 111, 97, 100, 32, 37], [115, 110, 111, 119, 32, 35], [119, 105, 110, 100, 32, 35], [119, 97, 105, 116, 32, 37], [119, 97, 105, 116, 32], [59, 111, 114, 100, 101, 114, 32], [32], [59, 115, 97, 108, 116, 32], [59, 115, 110, 111, 119, 32], [59, 108, 111, 97, 100, 32], [59, 99, 97, 110, 99, 101, 108, 32], [59, 99, 97, 110, 99, 101, 108, 32], [59, 99, 97, 110, 99, 101, 108, 32], [99, 109]]
def gTxt : List (String × Nat × String × Nat) := [(RX3, 22, "street # # @#", 0), (RX3, 24, "plough #", 1), (RX3, 26, "order # %", 2), (RX3, 28, "cancel #", 3), (RX3, 30, "salt %", 4), (RX3, 32, "load %", 5), (RX3, 34, "snow #", 6), (RX3, 36, "wind #", 7), (RX3, 38, "wait %", 8), (RL, 148, "wait ", 9), (RL, 157, ";order ", 10), (RL, 159, " ", 11), (RL, 165, ";salt ", 12), (RL, 167, ";snow ", 13), (RL, 169, ";load ", 14), (RL, 171, ";cancel ", 15), (RL, 171, ";cancel ", 16), (RL, 171, ";cancel ", 17), (RX6, 316, "cm", 18)]
def gMsg : List (String × Nat × String) := [(RX6, 73, "no such junction"), (RX6, 80, "twice the same junction, no such class, or no such length"), (RX6, 85, "there are 12 streets, or the junctions are connected"), (RX6, 95, "there are 4 ploughs"), (RX6, 101, "no such plough or no such street"), (RX6, 103, "there are 5 orders in the queue"), (RX6, 108, "no such plough"), (RX6, 112, "the queue is empty"), (RX6, 118, "no such street"), (RX6, 122, "the street is salted"), (RX6, 125, "the store has too few units"), (RX6, 130, "not between 1 and 200 units"), (RX6, 132, "the store would contain more than 500 units"), (RX6, 137, "the rate is not between 0 and 9"), (RX6, 142, "the force is not between 0 and 9"), (RX6, 147, "not between 1 and 600 minutes"), (RX6, 188, "the street is not salted"), (RX6, 204, "there is no path"), (RX6, 216, "no such rank"), (RX6, 232, "the plough is idle"), (RX6, 243, "no such position"), (RX6, 248, "no path leads to the street"), (RX6, 253, "the street is not cleared within 600 minutes"), (RX6, 261, "not between 0 and 600 minutes"), (RX6, 330, "the character cannot be typed"), (RX6, 335, "the script buffer is full"), (RX6, 343, "the script does not have the required form"), (RX6, 351, "a command of the script failed"), (RX6, 367, "there is nothing to undo"), (RX6, 372, "there is no snapshot")]
def gOnes (j : Nat) : Int32 := nI (48 + j % 10)
def gTens (j : Nat) : Int32 := nI (48 + j / 10)
abbrev GT : Type := (Nat → Nat) × (Nat → Nat)
/-- a text that is a constant: its object, its bytes -/
def gStr (a v n : Nat) (f : Nat → Int32) (A : Nat → Prop) (U : State) (H : Heap) : Prop := va_O "java/lang/String" a A U H ∧ va_OF "java/lang/String" "coder" "B" (.int 0) a A U H ∧ va_OF "java/lang/String" "value" "[B" (.ref v) a A U H ∧ va_T .byte v n (fun j => .int (f j)) A U H
theorem gStr.moved {a v n : Nat} {f : Nat → Int32} {A : Nat → Prop} {u U : State} {H : Heap} (hvm : u.vm.Alike U.vm) (h : gStr a v n f A u H) : gStr a v n f A U H := ⟨va_O.moved hvm h.1, va_OF.moved hvm h.2.1, va_OF.moved hvm h.2.2.1, va_T.moved hvm h.2.2.2⟩
theorem gStr.kept {a v n : Nat} {f : Nat → Int32} {A : Nat → Prop} {U : State} {H H1 : Heap} (h : gStr a v n f A U H) (hq : ∀ a : Nat, a < H.size → ¬ A a → H1[a]? = H[a]?) : gStr a v n f A U H1 := ⟨h.1.kept hq, h.2.1.kept hq, h.2.2.1.kept hq, h.2.2.2.kept hq⟩
theorem gStr.narrow {a v n : Nat} {f : Nat → Int32} {A B : Nat → Prop} {U : State} {H : Heap} (h : gStr a v n f A U H) (hAB : ∀ q, B q → A q) : gStr a v n f B U H := ⟨h.1.narrow hAB, h.2.1.narrow hAB, h.2.2.1.narrow hAB, h.2.2.2.narrow hAB⟩
/-- the law's script: its row, its length, what it holds -/
def zxs (t : GT) : Nat → Int32 := fun j => Int32.ofNat (t.2 (1000 + j))
def gZs (t : GT) (A : Nat → Prop) (U : State) (H : Heap) : Prop := va_X (t.1 60) (t.1 61) (zxs t) U H ∧ t.1 60 < H.size ∧ ¬ A (t.1 60)
theorem gZs.moved {t : GT} {A : Nat → Prop} {u U : State} {H : Heap} (hvm : u.vm.Alike U.vm) (h : gZs t A u H) : gZs t A U H := ⟨va_X.moved hvm h.1, h.2⟩
theorem gZs.kept {t : GT} {A : Nat → Prop} {U : State} {H H1 : Heap} (h : gZs t A U H) (hz : H.size ≤ H1.size) (hq : ∀ a : Nat, a < H.size → ¬ A a → H1[a]? = H[a]?) : gZs t A U H1 := ⟨h.1.kept (hq _ h.2.1 h.2.2), Nat.lt_of_lt_of_le h.2.1 hz, h.2.2⟩
theorem gZs.narrow {t : GT} {A B : Nat → Prop} {U : State} {H : Heap} (h : gZs t A U H) (hAB : ∀ q, B q → A q) : gZs t B U H := ⟨h.1, h.2.1, fun q => h.2.2 (hAB _ q)⟩
/-- what no program of ours writes -/
def gOld (t : GT) (A : Nat → Prop) (U : State) (H : Heap) : Prop :=
  (∀ i : Nat, i < 19 → gStr (t.1 i) (t.2 i) (gLen.getD i 0) (fun j => (gByt.getD i []).getD j 0) A U H) ∧ vx_Zq Bundle.tN "UNASSIGNED_STACK" Bundle.steD A U H ∧ vx_Zq Bundle.tN "SUPPRESSED_SENTINEL" Bundle.listD A U H ∧
  va_Z "java/lang/String" "COMPACT_STRINGS" "Z" (.int 1) A U H ∧ va_Zq "jdk/internal/util/Preconditions" "SIOOBE_FORMATTER" "Ljava/util/function/BiFunction;" A U H ∧
  va_Z "java/lang/Integer" "DigitOnes" "[B" (.ref (t.2 100)) A U H ∧ va_T .byte (t.2 100) 100 (fun j => .int (gOnes j)) A U H ∧ va_Z "java/lang/Integer" "DigitTens" "[B" (.ref (t.2 101)) A U H ∧ va_T .byte (t.2 101) 100 (fun j => .int (gTens j)) A U H ∧ gZs t A U H
def gEx : List String := ["java/lang/IndexOutOfBoundsException", "java/lang/IllegalArgumentException", "java/lang/IllegalStateException", "java/lang/UnsupportedOperationException", "java/util/NoSuchElementException"]
def gDecl : List MethodName := [Bundle.initS "java/lang/RuntimeException", Bundle.initS "java/lang/Exception", Bundle.initS "java/lang/Throwable"]
def gNw : List Cond := gDecl.map .declares ++ gEx.map (fun x => .castable x x)
def gRef (t : GT) (U : State) : Prop := ((∀ q ∈ gMsg, ∃ a, vk_R q.1 q.2.1 q.2.2 a U) ∧ ∀ q ∈ gTxt, vk_R q.1 q.2.1 q.2.2.1 (t.1 q.2.2.2) U) ∧ (∀ w ∈ gNw, va_Nw w U) ∧ ∀ x ∈ gEx, ∀ y ∈ gEx, x ≠ y → va_Nc x y U
theorem gNw_form {w : Cond} (h : w ∈ gNw) : (∃ x, w = .declares x) ∨ ∃ C T, w = .castable C T := by
  rcases List.mem_append.mp h with h | h
  · obtain ⟨x, -, e⟩ := List.mem_map.mp h
    exact Or.inl ⟨x, e.symm⟩
  · obtain ⟨x, -, e⟩ := List.mem_map.mp h
    exact Or.inr ⟨x, x, e.symm⟩
theorem gNw_ot {w : Cond} (h : w ∈ gNw) : w.onTables = true := by
  rcases gNw_form h with ⟨x, rfl⟩ | ⟨C, T, rfl⟩ <;> rfl
def gX (t : GT) (A : Nat → Prop) (U : State) (H : Heap) : Prop := gOld t A U H ∧ gRef t U
theorem gOld.moved {t : GT} {A : Nat → Prop} {u U : State} {H : Heap} (hvm : u.vm.Alike U.vm) (h : gOld t A u H) : gOld t A U H :=
  ⟨fun i hi => (h.1 i hi).moved hvm, vx_Zq.moved hvm h.2.1, vx_Zq.moved hvm h.2.2.1, va_Z.moved hvm h.2.2.2.1, va_Zq.moved hvm h.2.2.2.2.1, va_Z.moved hvm h.2.2.2.2.2.1, va_T.moved hvm h.2.2.2.2.2.2.1, va_Z.moved hvm h.2.2.2.2.2.2.2.1, va_T.moved hvm h.2.2.2.2.2.2.2.2.1, gZs.moved hvm h.2.2.2.2.2.2.2.2.2⟩
theorem gOld.kept {t : GT} {A : Nat → Prop} {U : State} {H H1 : Heap} (h : gOld t A U H) (hz : H.size ≤ H1.size) (hq : ∀ a : Nat, a < H.size → ¬ A a → H1[a]? = H[a]?) : gOld t A U H1 :=
  ⟨fun i hi => (h.1 i hi).kept hq, h.2.1.kept hq, h.2.2.1.kept hq, h.2.2.2.1.kept hq, h.2.2.2.2.1.kept hq, h.2.2.2.2.2.1.kept hq, h.2.2.2.2.2.2.1.kept hq, h.2.2.2.2.2.2.2.1.kept hq, h.2.2.2.2.2.2.2.2.1.kept hq, h.2.2.2.2.2.2.2.2.2.kept hz hq⟩
theorem gOld.narrow {t : GT} {A B : Nat → Prop} {U : State} {H : Heap} (h : gOld t A U H) (hAB : ∀ q, B q → A q) : gOld t B U H :=
  ⟨fun i hi => (h.1 i hi).narrow hAB, h.2.1.narrow hAB, h.2.2.1.narrow hAB, h.2.2.2.1.narrow hAB, h.2.2.2.2.1.narrow hAB, h.2.2.2.2.2.1.narrow hAB, h.2.2.2.2.2.2.1.narrow hAB, h.2.2.2.2.2.2.2.1.narrow hAB, h.2.2.2.2.2.2.2.2.1.narrow hAB, h.2.2.2.2.2.2.2.2.2.narrow hAB⟩
theorem gRef.warm {t : GT} {s U : State} (hW : s.WarmedH U.vm) (h : gRef t s) : gRef t U := by
  refine ⟨⟨fun q hq => (h.1.1 q hq).elim (fun a ha => ⟨a, vk_R.warm hW ha⟩), fun q hq => vk_R.warm hW (h.1.2 q hq)⟩, fun w hw => ?_, fun x hx y hy hne => va_Nc.moved hW.alike (h.2.2 x hx y hy hne)⟩
  have h1 := h.2.1 w hw
  rcases gNw_form hw with ⟨x, rfl⟩ | ⟨C, T, rfl⟩
  · exact va_Nw.warmD hW h1
  · exact va_Nw.warmC hW h1
theorem gRef.same {t : GT} {u U : State} (hv : U.vm = u.vm) (h : gRef t u) : gRef t U :=
  ⟨⟨fun q hq => (h.1.1 q hq).elim (fun a ha => ⟨a, vk_R.same hv ha⟩), fun q hq => vk_R.same hv (h.1.2 q hq)⟩, fun w hw => va_Nw.same (gNw_ot hw) hv.symm (h.2.1 w hw), fun x hx y hy hne => va_Nc.moved (by rw [hv]; exact Vm.Alike.refl u.vm) (h.2.2 x hx y hy hne)⟩
theorem gX.call {t : GT} {A B : Nat → Prop} {s U : State} {H : Heap} {locs : List Loc} (h : gX t A s s.heap) (hS : va_S A s.heap H locs) (hAB : ∀ q, B q → A q) (hU : U.heap = H) (hW : s.WarmedH U.vm) : gX t B U U.heap :=
  ⟨by rw [hU]; exact ((h.1.kept hS.1 hS.2.1).narrow hAB).moved hW.alike, h.2.warm hW⟩
theorem gX.same {t : GT} {A : Nat → Prop} {u U : State} {H : Heap} (hv : U.vm = u.vm) (h : gX t A u H) : gX t A U H := ⟨h.1.moved (by rw [hv]; exact Vm.Alike.refl u.vm), h.2.same hv⟩
theorem gX.msg {t : GT} {A : Nat → Prop} {U : State} {H : Heap} (h : gX t A U H) (k : Nat) {o tx : String} {i : Nat} (hk : gMsg[k]? = some (o, i, tx)) : ∃ a, vk_R o i tx a U := h.2.1.1 (o, i, tx) (List.mem_of_getElem? hk)
theorem gX.txt {t : GT} {A : Nat → Prop} {U : State} {H : Heap} (h : gX t A U H) (k : Nat) {o tx : String} {i n : Nat} (hk : gTxt[k]? = some (o, i, tx, n)) : vk_R o i tx (t.1 n) U := h.2.1.2 (o, i, tx, n) (List.mem_of_getElem? hk)
theorem gX.at {t : GT} {A : Nat → Prop} {s : State} {H : Heap} {ws l : List Cond} {args : Array Value} (h : gX t A s H) (hts : ∀ w ∈ ws, w.before args s = true) (hl : ∀ w ∈ l, w ∈ ws ∨ w ∈ gNw) : ∀ w ∈ l, w.before args s = true :=
  fun w hw => (hl w hw).elim (hts w) (fun h1 => va_Nw.use (gNw_ot h1) (h.2.2.1 w h1))
def gIs (k n : Nat) (f : Nat → Int32) : Prop := k < 19 ∧ gLen.getD k 0 = n ∧ (fun j => (gByt.getD k []).getD j 0) = f
theorem gX.str {t : GT} {A : Nat → Prop} {U : State} {H : Heap} {k n : Nat} {f : Nat → Int32} (h : gX t A U H) (hk : gIs k n f) : gStr (t.1 k) (t.2 k) n f A U H := by
  obtain ⟨h1, h2, h3⟩ := hk
  have := h.1.1 k h1
  rw [h2, h3] at this
  exact this
theorem gStr.recv {a v n : Nat} {f : Nat → Int32} {A : Nat → Prop} {s : State} {H : Heap} {locs : List Loc} (h : gStr a v n f A s s.heap) (hS : va_S A s.heap H locs) : ∃ cell : Cell, H[a]? = some cell ∧ cell.vm.isStatics = false ∧ s.vm.findClass "java/lang/String" = some cell.cls := by
  obtain ⟨cell, h1, h2, h3, -⟩ := h.1.kept hS.2.1
  exact ⟨cell, h1, h2, h3⟩
def gPX (g : GG) (t : GT) (sz : Nat) (ws : va_W) (av : List Value) : Array Value → State → Prop := va_Pc av (fun U => U.heap.size = sz ∧ va_P g.1 vwCl ws U.heap ∧ gE g U ∧ va_D (fun _ => True) ws ∧ gX t (va_A ws sz) U U.heap)
theorem gPX.blind {g : GG} {t : GT} {sz : Nat} {ws : va_W} {av : List Value} : FrameBlind (gPX g t sz ws av) := fun a U gf mk h => ⟨h.1, h.2.1, h.2.2.1, gE.same (u := U) (U := U.calling gf mk a) rfl h.2.2.2.1, h.2.2.2.2.1, gX.same (u := U) (U := U.calling gf mk a) rfl h.2.2.2.2.2⟩
theorem gPX.of {g : GG} {t : GT} {ws : va_W} {av : List Value} {s : State} {H : Heap} {A B : Nat → Prop} {locs : List Loc} (hE : gE g s) (hP : va_P g.1 vwCl ws H) (hD : va_D B ws) (hX : gX t A s s.heap) (hS : va_S A s.heap H locs) (hF : ∀ q, va_A ws H.size q → A q) : ∀ U : State, U.heap = H → s.WarmedH U.vm → gPX g t H.size ws av av.toArray U :=
  fun U hU hW => ⟨rfl, by rw [hU], by rw [hU]; exact hP, hE.warm hW, hD.weaken (fun _ _ _ _ => trivial), by exact hX.call hS hF hU hW⟩
section GXCALL
variable {p : Program} {l : Launch} {e : Env} {R : Room} {s : State} {m : MethodId} {args : Array Value} {below : List Frame} {meth : Method} {c : Code} {H : Heap} {locs : List Loc} {cells slots : Nat} {Q : State → Prop}
  {y : MethodName} {bytes cc : ByteArray} {maxL nL mc ms n index : Nat} {ret : Option FieldType} {ws : List Cond} {rm : Room} {Qc : Array Value → State → Outcome → State → Prop} {XC : String → State → State → Prop} {free : Addr → Prop} {Ts : List Cond} {own C host : String} {b : Addr} {As rest : List Value} {gf : JFrame} {g : GG} {t : GT} {wc : va_W} {A B : Nat → Prop} {q : vw_C} {fs : List Value}
theorem gRunVX (S : CallFix p m c cc nL s args Ts own) (hM : Met l y ws rm (gPX g t H.size wc (.ref b :: As)) Qc mc ms free) (cw : CallW R s args own C index y bytes maxL ret ws rm mc ms n) (hE : gE g s) (hX : gX t A s s.heap) (hS : va_S A s.heap H locs) (hF : ∀ q, va_A wc H.size q → A q) (hP : va_P g.1 vwCl wc H) (hD : va_D B wc) (q0 ci : Nat) (hc : vwCl[ci]? = some q) (hq : q.1 = C) (he : wc[q0]? = some (b, .inr (ci, fs)))
    (hg : gf.method = m) (hn : As.length = n) (hsize : gf.locals.size = nL) (hstack : gf.stack = As.reverse ++ .ref b :: rest) (hW : 2 * gf.monitorRoom + (rest.map fun v => v.category).sum ≤ 8) (hdg : decode cc gf.pc = .ok (.invokevirtual index, 3)) (hf : cells + mc ≤ R.cells ∧ slots + ms ≤ R.slots) :
    va_Run p l e R s m args below meth c H locs cells slots mc ms gf rest (Qc (Value.ref b :: As).toArray) (free) :=
  va_runV S hM cw ⟨gPX.blind, hq ▸ va_recv hE.1 hP hc he, gPX.of hE hP hD hX hS hF⟩ hg hn hsize hstack hW hdg hf
theorem gRunSX (S : CallFix p m c cc nL s args Ts own) (hM : Met l y ws rm (gPX g t H.size wc As) Qc mc ms free) (cw : CallB R s args own index y bytes maxL ret ws rm mc ms n ∧ (Cond.static y).before args s = true) (hE : gE g s) (hX : gX t A s s.heap) (hS : va_S A s.heap H locs) (hF : ∀ q, va_A wc H.size q → A q) (hP : va_P g.1 vwCl wc H) (hD : va_D B wc)
    (hg : gf.method = m) (hn : As.length = n) (hsize : gf.locals.size = nL) (hstack : gf.stack = As.reverse ++ rest) (hW : 2 * gf.monitorRoom + (rest.map fun v => v.category).sum ≤ 8) (hdg : decode cc gf.pc = .ok (.invokestatic index, 3)) (hf : cells + mc ≤ R.cells ∧ slots + ms ≤ R.slots) :
    va_Run p l e R s m args below meth c H locs cells slots mc ms gf rest (Qc As.toArray) (free) :=
  va_runS S hM cw ⟨gPX.blind, gPX.of hE hP hD hX hS hF⟩ hg hn hsize hstack hW hdg hf
theorem gRunVr (S : CallFix p m c cc nL s args Ts own) (hM : Met l y ws rm (gPX g t H.size wc (.ref b :: As)) Qc mc ms free) (cw : CallW R s args own C index y bytes maxL ret ws rm mc ms n) (hE : gE g s) (hX : gX t A s s.heap) (hS : va_S A s.heap H locs) (hF : ∀ q, va_A wc H.size q → A q) (hP : va_P g.1 vwCl wc H) (hD : va_D B wc) (hr : ∃ cell : Cell, H[b]? = some cell ∧ cell.vm.isStatics = false ∧ s.vm.findClass C = some cell.cls)
    (hg : gf.method = m) (hn : As.length = n) (hsize : gf.locals.size = nL) (hstack : gf.stack = As.reverse ++ .ref b :: rest) (hW : 2 * gf.monitorRoom + (rest.map fun v => v.category).sum ≤ 8) (hdg : decode cc gf.pc = .ok (.invokevirtual index, 3)) (hf : cells + mc ≤ R.cells ∧ slots + ms ≤ R.slots) :
    va_Run p l e R s m args below meth c H locs cells slots mc ms gf rest (Qc (Value.ref b :: As).toArray) (free) :=
  va_runV S hM cw ⟨gPX.blind, hr, gPX.of hE hP hD hX hS hF⟩ hg hn hsize hstack hW hdg hf
theorem gRunUX {x : MethodName} {owner : String} (S : CallFix p m c cc nL s args Ts own) (hM : Met l y ws rm (gPX g t H.size wc (.ref b :: As)) Qc mc ms free) (cw : va_CU R s args own C owner index x y bytes maxL ret ws rm mc ms n) (hE : gE g s) (hX : gX t A s s.heap) (hS : va_S A s.heap H locs) (hF : ∀ q, va_A wc H.size q → A q) (hP : va_P g.1 vwCl wc H) (hD : va_D B wc) (q0 ci : Nat) (hc : vwCl[ci]? = some q) (hq : q.1 = C) (he : wc[q0]? = some (b, .inr (ci, fs)))
    (hg : gf.method = m) (hn : As.length = n) (hsize : gf.locals.size = nL) (hstack : gf.stack = As.reverse ++ .ref b :: rest) (hW : 2 * gf.monitorRoom + (rest.map fun v => v.category).sum ≤ 8) (hdg : decode cc gf.pc = .ok (.invokevirtual index, 3)) (hf : cells + mc ≤ R.cells ∧ slots + ms ≤ R.slots) :
    va_Run p l e R s m args below meth c H locs cells slots mc ms gf rest (Qc (Value.ref b :: As).toArray) (free) :=
  va_runU S hM cw ⟨gPX.blind, hq ▸ va_recv hE.1 hP hc he, gPX.of hE hP hD hX hS hF⟩ hg hn hsize hstack hW hdg hf
theorem gRunU {x : MethodName} {owner : String} (S : CallFix p m c cc nL s args Ts own) (hM : Met l y ws rm (gPc g H.size wc (.ref b :: As)) Qc mc ms free) (cw : va_CU R s args own C owner index x y bytes maxL ret ws rm mc ms n) (hE : gE g s) (hP : va_P g.1 vwCl wc H) (hD : va_D B wc) (q0 ci : Nat) (hc : vwCl[ci]? = some q) (hq : q.1 = C) (he : wc[q0]? = some (b, .inr (ci, fs)))
    (hg : gf.method = m) (hn : As.length = n) (hsize : gf.locals.size = nL) (hstack : gf.stack = As.reverse ++ .ref b :: rest) (hW : 2 * gf.monitorRoom + (rest.map fun v => v.category).sum ≤ 8) (hdg : decode cc gf.pc = .ok (.invokevirtual index, 3)) (hf : cells + mc ≤ R.cells ∧ slots + ms ≤ R.slots) :
    va_Run p l e R s m args below meth c H locs cells slots mc ms gf rest (Qc (Value.ref b :: As).toArray) (free) :=
  va_runU S hM cw ⟨gPc.blind, hq ▸ va_recv hE.1 hP hc he, gPc.of hE hP hD⟩ hg hn hsize hstack hW hdg hf
theorem gRunSUX (S : CallFix p m c cc nL s args Ts own) (hM : Met l y ws rm (gPX g t H.size wc (.ref b :: As)) Qc mc ms free) (cw : va_CS R s args own index y bytes maxL ret ws rm mc ms n) (hE : gE g s) (hX : gX t A s s.heap) (hS : va_S A s.heap H locs) (hF : ∀ q, va_A wc H.size q → A q) (hP : va_P g.1 vwCl wc H) (hD : va_D B wc) (q0 ci : Nat) (hc : vwCl[ci]? = some q) (hq : q.1 = C) (he : wc[q0]? = some (b, .inr (ci, fs)))
    (hg : gf.method = m) (hn : As.length = n) (hsize : gf.locals.size = nL) (hstack : gf.stack = As.reverse ++ .ref b :: rest) (hW : 2 * gf.monitorRoom + (rest.map fun v => v.category).sum ≤ 8) (hdg : decode cc gf.pc = .ok (.invokespecial index, 3)) (hf : cells + mc ≤ R.cells ∧ slots + ms ≤ R.slots) :
    va_Run p l e R s m args below meth c H locs cells slots mc ms gf rest (Qc (Value.ref b :: As).toArray) (free) :=
  va_runSU (hq ▸ (hE.1.1 ci q hc).2) S hM cw ⟨gPX.blind, hq ▸ va_recv hE.1 hP hc he, gPX.of hE hP hD hX hS hF⟩ hg hn hsize hstack hW hdg hf
theorem gRunSU (S : CallFix p m c cc nL s args Ts own) (hM : Met l y ws rm (gPc g H.size wc (.ref b :: As)) Qc mc ms free) (cw : va_CS R s args own index y bytes maxL ret ws rm mc ms n) (hE : gE g s) (hP : va_P g.1 vwCl wc H) (hD : va_D B wc) (q0 ci : Nat) (hc : vwCl[ci]? = some q) (hq : q.1 = C) (he : wc[q0]? = some (b, .inr (ci, fs)))
    (hg : gf.method = m) (hn : As.length = n) (hsize : gf.locals.size = nL) (hstack : gf.stack = As.reverse ++ .ref b :: rest) (hW : 2 * gf.monitorRoom + (rest.map fun v => v.category).sum ≤ 8) (hdg : decode cc gf.pc = .ok (.invokespecial index, 3)) (hf : cells + mc ≤ R.cells ∧ slots + ms ≤ R.slots) :
    va_Run p l e R s m args below meth c H locs cells slots mc ms gf rest (Qc (Value.ref b :: As).toArray) (free) :=
  va_runSU (hq ▸ (hE.1.1 ci q hc).2) S hM cw ⟨gPc.blind, hq ▸ va_recv hE.1 hP hc he, gPc.of hE hP hD⟩ hg hn hsize hstack hW hdg hf
end GXCALL
theorem gOfX {l : Launch} {y : MethodName} {ws ws' : List Cond} {rm : Room} {g : GG} {t : GT} {sz : Nat} {wld : va_W} {av : List Value} {Qc : Array Value → State → Outcome → State → Prop} {mc ms : Nat} {cc : ByteArray} {maxL : Nat} {ret : Option FieldType}
    (hy : plainName y.cls = true) (hw : ws = Cond.code y cc maxL ret :: ws') (hlen : (lg_sl av).length ≤ maxL)
    (body : ∀ (p : Program) (e : Env) (s : State) (m : MethodId) (below : List Frame) (meth : Method) (c : Code) (ls : Array Slot) (Q : State → Prop) (A : Nat → Prop), Q = MQ below Qc av.toArray s mc ms A → p.tables.exec = Jvm.exec → c.code = cc → meth.sig.returnType = ret → c.maxLocals = maxL → (∀ w ∈ ws, w.before av.toArray s = true) → s.vm.findClass y.cls = some m.cls → meth.locks = false → gE g s → A = va_A wld sz → sz = s.heap.size → va_P g.1 vwCl wld s.heap → va_D A wld → (∀ q, s.heap.size ≤ q → A q) → va_S A s.heap s.heap [] → lv_has ls maxL (lv_args 0 av) → gX t A s s.heap → W p l e rm s m av.toArray below meth c s.heap [] 0 0 Q (F0 m 0 ls [])) :
    Met l y ws rm (gPX g t sz wld av) Qc mc ms (va_A wld sz) := by
  refine Met.ofW (cc := cc) (maxL := maxL) (ret := ret) hy hw ?_
  intro p e s m args below meth c s₁ B hml hv
  obtain ⟨rfl, hsz, hP, hE, hD0, hX⟩ := hv
  have hts := atoms_spec (ws := ws) B.pre
  have hown : s.vm.findClass y.cls = some m.cls := findClass_of_methodNamed B.named
  have hlocks := B.notSynchronized
  rw [lg_entry_eq]
  subst hsz
  exact body p e s m below meth c _ _ _ rfl B.exec B.bytes B.returns hml hts hown hlocks hE rfl rfl hP (hD0.self (sz := s.heap.size)) (fun q h => Or.inr h) va_S.rf (lv_entry av hlen) hX
/-- a method that may throw -/
theorem gOfT {l : Launch} {y : MethodName} {ws ws' : List Cond} {rm : Room} {g : GG} {t : GT} {sz : Nat} {wld : va_W} {av : List Value} {Qc : Array Value → State → Outcome → State → Prop} {XC : String → State → State → Prop} {mc ms : Nat} {cc : ByteArray} {maxL : Nat} {ret : Option FieldType}
    (hy : plainName y.cls = true) (hw : ws = Cond.code y cc maxL ret :: ws') (hlen : (lg_sl av).length ≤ maxL)
    (body : ∀ (p : Program) (e : Env) (s : State) (m : MethodId) (below : List Frame) (meth : Method) (c : Code) (ls : Array Slot) (Q : State → Prop) (A : Nat → Prop), Q = vx_MQ below Qc XC av.toArray s mc ms A → p.tables.exec = Jvm.exec → c.code = cc → meth.sig.returnType = ret → c.maxLocals = maxL → (∀ w ∈ ws, w.before av.toArray s = true) → s.vm.findClass y.cls = some m.cls → meth.locks = false → gE g s → A = va_A wld sz → sz = s.heap.size → va_P g.1 vwCl wld s.heap → va_D A wld → (∀ q, s.heap.size ≤ q → A q) → va_S A s.heap s.heap [] → lv_has ls maxL (lv_args 0 av) → gX t A s s.heap → (∀ x ∈ c.exceptionTable.toList, False) → W p l e rm s m av.toArray below meth c s.heap [] 0 0 Q (F0 m 0 ls [])) :
    vx_Met l y ws rm (gPX g t sz wld av) Qc XC mc ms (va_A wld sz) := by
  refine vx_ofW (cc := cc) (maxL := maxL) (ret := ret) hy hw ?_
  intro p e s m args below meth c s₁ B hml hT hv
  obtain ⟨rfl, hsz, hP, hE, hD0, hX⟩ := hv
  have hts := atoms_spec (ws := ws) B.pre
  have hown : s.vm.findClass y.cls = some m.cls := findClass_of_methodNamed B.named
  have hlocks := B.notSynchronized
  rw [lg_entry_eq]
  subst hsz
  exact body p e s m below meth c _ _ _ rfl B.exec B.bytes B.returns hml hts hown hlocks hE rfl rfl hP (hD0.self (sz := s.heap.size)) (fun q h => Or.inr h) va_S.rf (lv_entry av hlen) hX hT
/-- the world behind a throw: as it was -/
theorem gThrown {g : GG} {wc w1 : va_W} {sz : Nat} {A : Nat → Prop} {s t : State} {H : Heap} {locs : List Loc} (hA : A = va_A wc sz) (hP : va_P g.1 vwCl w1 H) (hD : va_D A w1) (hS : va_S A s.heap H locs) (hz : H.size ≤ t.heap.size) (hk : ∀ q : Nat, q < H.size → t.heap[q]? = H[q]?) : gB g wc sz w1 t ∧ va_F (va_A wc sz) s t := by
  subst hA
  refine ⟨⟨hP.kept (fun k q hq => hk q.1 (hP k q hq).lt), hD⟩, Nat.le_trans hS.1 hz, fun q h1 h2 => ?_⟩
  rw [hk q (Nat.lt_of_lt_of_le h1 hS.1)]
  exact hS.2.1 q h1 h2
