abbrev vwCl : List vw_C := [(RJ0, TJ0, 4), (RJ4, TJ4, 4), (RJx00060, TJx00060, 6), (RJx7c733, TJx7c733, 6), (RX0, TX0, 3), (RX1, TX1, 3), (RX2, TX2, 6), (RX3, TX3, 4), (RX4, TX4, 9), (RX5, TX5, 11), (RX6, TX6, 10)]
/-! the worlds as rows of blocks; array classes by number: 0 int, 1 char, 2 boolean, 3 byte, 4 the towns' row, 5 the rows of rows of ints, 6 int once more -/
abbrev GG : Type := va_G × (Nat → ClassId)
def gTys (g : GG) : List (ClassId × FieldType) := [(g.2 0, .int), (g.2 1, .char), (g.2 2, .boolean), (g.2 3, .byte), (g.2 4, .object "SnowDispatcher$Town"), (g.2 5, .array .int), (g.2 6, .int)]
def gNest (U : State) : Prop := va_Nw (.methodLinkNest RX1 27 yX6_isJunction RX6) U ∧ va_Nw (.methodLinkNest RX5 61 yX6_isJunction RX6) U
def gE (g : GG) (U : State) : Prop := va_K g.1 vwCl (gTys g) U ∧ gNest U
theorem gE.warm {g : GG} {s U : State} (hW : s.WarmedH U.vm) (h : gE g s) : gE g U := ⟨va_K.moved hW.alike h.1, va_Nw.warmM hW h.2.1, va_Nw.warmM hW h.2.2⟩
theorem gE.same {g : GG} {u U : State} (hv : u.vm = U.vm) (h : gE g u) : gE g U := ⟨va_K.moved (by rw [hv]; exact Vm.Alike.refl U.vm) h.1, va_Nw.same rfl hv h.2.1, va_Nw.same rfl hv h.2.2⟩
def gPc (g : GG) (sz : Nat) (ws : va_W) (av : List Value) : Array Value → State → Prop := va_Pc av (fun U => U.heap.size = sz ∧ va_P g.1 vwCl ws U.heap ∧ gE g U ∧ va_D (fun _ => True) ws)
def gB (g : GG) (ws : va_W) (sz : Nat) (ws' : va_W) (t : State) : Prop := va_P g.1 vwCl ws' t.heap ∧ va_D (va_A ws sz) ws'
theorem gPc.blind {g : GG} {sz : Nat} {ws : va_W} {av : List Value} : FrameBlind (gPc g sz ws av) := fun a U gf mk h => ⟨h.1, h.2.1, h.2.2.1, gE.same (u := U) (U := U.calling gf mk a) rfl h.2.2.2.1, h.2.2.2.2⟩
theorem gPc.of {g : GG} {ws : va_W} {av : List Value} {s : State} {H : Heap} {A : Nat → Prop} (hE : gE g s) (hP : va_P g.1 vwCl ws H) (hD : va_D A ws) : ∀ U : State, U.heap = H → s.WarmedH U.vm → gPc g H.size ws av av.toArray U :=
  fun U hU hW => ⟨rfl, by rw [hU], by rw [hU]; exact hP, hE.warm hW, hD.weaken (fun _ _ _ _ => trivial)⟩
/-! worlds by membership -/
theorem gP_mem {D : va_G} {cl : List vw_C} {ws : va_W} {H : Heap} : va_P D cl ws H ↔ ∀ q ∈ ws, va_at D cl q H := by
  constructor
  · intro h q hq
    obtain ⟨k, hk⟩ := List.getElem?_of_mem hq
    exact h k q hk
  · intro h k q hk
    exact h q (List.mem_of_getElem? hk)
theorem gD_mem {A : Nat → Prop} {ws : va_W} : va_D A ws ↔ ws.Pairwise (fun p q => p.1 ≠ q.1) ∧ ∀ q ∈ ws, A q.1 := by
  constructor
  · intro h
    refine ⟨List.pairwise_iff_getElem.mpr (fun i j hi hj hij he => ?_), fun q hq => ?_⟩
    · have := h.1 i j _ _ (List.getElem?_eq_getElem hi) (List.getElem?_eq_getElem hj) he
      omega
    · obtain ⟨k, hk⟩ := List.getElem?_of_mem hq
      exact h.2 k q hk
  · intro h
    refine ⟨fun i j p q hp hq he => ?_, fun k q hk => h.2 q (List.mem_of_getElem? hk)⟩
    obtain ⟨hi, hp⟩ := List.getElem?_eq_some_iff.mp hp
    obtain ⟨hj, hq⟩ := List.getElem?_eq_some_iff.mp hq
    have h1 := List.pairwise_iff_getElem.mp h.1
    rcases Nat.lt_trichotomy i j with c | c | c
    · exact absurd (by rw [hp, hq]; exact he) (h1 i j hi hj c)
    · exact c
    · exact absurd (by rw [hp, hq]; exact he.symm) (h1 j i hj hi c)
def gPick (bs : List va_W) (is : List Nat) : List va_W := is.filterMap (fun i => bs[i]?)
def gPut : List va_W → List Nat → List va_W → List va_W
  | bs, i :: is, b :: l => gPut (bs.set i b) is l
  | bs, _, _ => bs
theorem gP_bs {D : va_G} {cl : List vw_C} {bs : List va_W} {H : Heap} : va_P D cl bs.flatten H ↔ ∀ b ∈ bs, va_P D cl b H := by
  simp only [gP_mem, List.mem_flatten]
  exact ⟨fun h b hb q hq => h q ⟨b, hb, hq⟩, fun h q ⟨b, hb, hq⟩ => h b hb q hq⟩
theorem gSub {D : va_G} {cl : List vw_C} {bs : List va_W} {H : Heap} (h : va_P D cl bs.flatten H) (is : List Nat) : va_P D cl (gPick bs is).flatten H := by
  rw [gP_bs] at h ⊢
  intro b hb
  obtain ⟨i, -, hi⟩ := List.mem_filterMap.mp hb
  exact h b (List.mem_of_getElem? hi)
theorem gD_bs {A : Nat → Prop} {bs : List va_W} : va_D A bs.flatten ↔ (∀ b ∈ bs, va_D A b) ∧ bs.Pairwise (fun x y => ∀ p ∈ x, ∀ q ∈ y, p.1 ≠ q.1) := by
  simp only [gD_mem, List.pairwise_flatten, List.mem_flatten]
  constructor
  · intro h
    exact ⟨fun b hb => ⟨h.1.1 b hb, fun q hq => h.2 q ⟨b, hb, hq⟩⟩, h.1.2⟩
  · intro h
    exact ⟨⟨fun b hb => (h.1 b hb).1, h.2⟩, fun q ⟨b, hb, hq⟩ => (h.1 b hb).2 q hq⟩
theorem gD_two {bs : List va_W} (h : bs.Pairwise (fun x y => ∀ p ∈ x, ∀ q ∈ y, p.1 ≠ q.1)) {i j : Nat} {x y : va_W} (hi : bs[i]? = some x) (hj : bs[j]? = some y) (hij : i ≠ j) : ∀ p ∈ x, ∀ q ∈ y, p.1 ≠ q.1 := by
  obtain ⟨li, ei⟩ := List.getElem?_eq_some_iff.mp hi
  obtain ⟨lj, ej⟩ := List.getElem?_eq_some_iff.mp hj
  have h1 := List.pairwise_iff_getElem.mp h
  intro p hp q hq
  rcases Nat.lt_or_gt_of_ne hij with c | c
  · have := h1 i j li lj c
    rw [ei, ej] at this
    exact this p hp q hq
  · have := h1 j i lj li c
    rw [ei, ej] at this
    exact fun e => this q hq p hp e.symm
theorem gDSub {A : Nat → Prop} {bs : List va_W} (h : va_D A bs.flatten) (is : List Nat) (hn : va_nd is = true) : va_D A (gPick bs is).flatten := by
  rw [gD_bs] at h ⊢
  refine ⟨fun b hb => ?_, ?_⟩
  · obtain ⟨i, -, hi⟩ := List.mem_filterMap.mp hb
    exact h.1 b (List.mem_of_getElem? hi)
  · unfold gPick
    rw [List.pairwise_filterMap, List.pairwise_iff_getElem]
    intro i j hi hj hij b hb b' hb'
    have hne : is[i] ≠ is[j] := fun e => by
      have := va_nd_inj is hn i j is[j] (by rw [List.getElem?_eq_getElem hi, e]) (List.getElem?_eq_getElem hj)
      omega
    exact gD_two h.2 hb hb' hne
theorem gFree {A : Nat → Prop} {bs : List va_W} {H0 H : Heap} {locs : List Loc} (hD : va_D A bs.flatten) (hS : va_S A H0 H locs) (hA : ∀ q, H0.size ≤ q → A q) (is : List Nat) : ∀ q, va_A (gPick bs is).flatten H.size q → A q := by
  intro q h
  rcases h with ⟨k, e, h⟩ | h
  · obtain ⟨b, hb, hq⟩ := List.mem_flatten.mp (List.mem_of_getElem? h)
    obtain ⟨i, -, hi⟩ := List.mem_filterMap.mp hb
    exact (gD_mem.mp ((gD_bs.mp hD).1 b (List.mem_of_getElem? hi))).2 (q, e) hq
  · exact hA q (Nat.le_trans hS.1 h)
theorem gPut_len : ∀ (is : List Nat) (l bs : List va_W), (gPut bs is l).length = bs.length
  | [], l, bs => by cases l <;> rfl
  | i :: is, [], bs => rfl
  | i :: is, b :: l, bs => by rw [gPut, gPut_len is l, List.length_set]
/-- what a put row holds: an old block at a place that isn't named, or a new one at a named place -/
theorem gPut_get : ∀ (is : List Nat) (l bs : List va_W) (k : Nat) (x : va_W), is.length = l.length → va_nd is = true → (gPut bs is l)[k]? = some x → (k ∉ is ∧ bs[k]? = some x) ∨ ∃ j : Nat, is[j]? = some k ∧ l[j]? = some x
  | [], [], bs, k, x, _, _, h => Or.inl ⟨by simp, h⟩
  | i :: is, b :: l, bs, k, x, hl, hn, h => by
    simp only [va_nd, Bool.and_eq_true, decide_eq_true_eq] at hn
    rcases gPut_get is l (bs.set i b) k x (by simpa using hl) hn.2 h with ⟨h1, h2⟩ | ⟨j, h1, h2⟩
    · by_cases hk : k = i
      · subst hk
        have hlt : k < bs.length := by
          have := (List.getElem?_eq_some_iff.mp h2).1
          rwa [List.length_set] at this
        rw [List.getElem?_set_self hlt] at h2
        exact Or.inr ⟨0, rfl, h2⟩
      · rw [List.getElem?_set_ne (Ne.symm hk)] at h2
        exact Or.inl ⟨by simp [hk, h1], h2⟩
    · exact Or.inr ⟨j + 1, h1, h2⟩
theorem gJoin {A0 : Nat → Prop} {D : va_G} {cl : List vw_C} {bs : List va_W} {H H1 : Heap} (hP : va_P D cl bs.flatten H) (hD : va_D A0 bs.flatten) (is : List Nat) (l : List va_W) (hl : is.length = l.length) (hn : va_nd is = true)
    (hk : ∀ q : Nat, q < H.size → ¬ va_A (gPick bs is).flatten H.size q → H1[q]? = H[q]?) (hF : ∀ q, va_A (gPick bs is).flatten H.size q → A0 q) (hP1 : va_P D cl l.flatten H1) (hD1 : va_D (va_A (gPick bs is).flatten H.size) l.flatten) : va_P D cl (gPut bs is l).flatten H1 ∧ va_D A0 (gPut bs is l).flatten := by
  have hDm := gD_bs.mp hD
  have hD1m := gD_bs.mp hD1
  have hPm := gP_bs.mp hP
  have hP1m := gP_bs.mp hP1
  have off : ∀ (k : Nat) (x : va_W), k ∉ is → bs[k]? = some x → ∀ q ∈ x, q.1 < H.size ∧ ¬ va_A (gPick bs is).flatten H.size q.1 := by
    intro k x hki hx q hq
    have hlt : q.1 < H.size := (gP_mem.mp (hPm x (List.mem_of_getElem? hx)) q hq).lt
    refine ⟨hlt, fun h => ?_⟩
    rcases h with ⟨k2, e, h⟩ | h
    · obtain ⟨b, hb, hq2⟩ := List.mem_flatten.mp (List.mem_of_getElem? h)
      obtain ⟨i, hi1, hi2⟩ := List.mem_filterMap.mp hb
      exact gD_two hDm.2 hx hi2 (fun e => hki (by rw [e]; exact hi1)) q hq (q.1, e) hq2 rfl
    · omega
  constructor
  · rw [gP_bs]
    intro b hb
    obtain ⟨k, hkb⟩ := List.getElem?_of_mem hb
    rcases gPut_get is l bs k b hl hn hkb with ⟨h1, h2⟩ | ⟨j, h1, h2⟩
    · rw [gP_mem]
      intro q hq
      obtain ⟨g1, g2⟩ := off k b h1 h2 q hq
      exact (gP_mem.mp (hPm b (List.mem_of_getElem? h2)) q hq).kept (hk q.1 g1 g2)
    · exact hP1m b (List.mem_of_getElem? h2)
  · rw [gD_bs]
    refine ⟨fun b hb => ?_, List.pairwise_iff_getElem.mpr (fun i j hi hj hij => ?_)⟩
    · obtain ⟨k, hkb⟩ := List.getElem?_of_mem hb
      rcases gPut_get is l bs k b hl hn hkb with ⟨h1, h2⟩ | ⟨j, h1, h2⟩
      · exact hDm.1 b (List.mem_of_getElem? h2)
      · exact (hD1m.1 b (List.mem_of_getElem? h2)).weaken (fun k q _ h => hF q.1 h)
    · intro p hp q hq
      have a1 := gPut_get is l bs i _ hl hn (List.getElem?_eq_getElem hi)
      have a2 := gPut_get is l bs j _ hl hn (List.getElem?_eq_getElem hj)
      rcases a1 with ⟨h1, h2⟩ | ⟨j1, h1, h2⟩ <;> rcases a2 with ⟨h3, h4⟩ | ⟨j2, h3, h4⟩
      · exact gD_two hDm.2 h2 h4 (by omega) p hp q hq
      · intro e
        have := (gD_mem.mp (hD1m.1 _ (List.mem_of_getElem? h4))).2 q hq
        exact (off i _ h1 h2 p hp).2 (by rw [e]; exact this)
      · intro e
        have := (gD_mem.mp (hD1m.1 _ (List.mem_of_getElem? h2))).2 p hp
        exact (off j _ h3 h4 q hq).2 (by rw [← e]; exact this)
      · have hne : j1 ≠ j2 := fun e => by rw [e, h3] at h1; cases h1; omega
        exact gD_two hD1m.2 h2 h4 hne p hp q hq
/-! calls over such worlds -/
section GCALL
variable {p : Program} {l : Launch} {e : Env} {R : Room} {s : State} {m : MethodId} {args : Array Value} {below : List Frame} {meth : Method} {c : Code} {H : Heap} {locs : List Loc} {cells slots : Nat} {Q : State → Prop}
  {y : MethodName} {bytes cc : ByteArray} {maxL nL mc ms n index : Nat} {ret : Option FieldType} {ws : List Cond} {rm : Room} {Qc : Array Value → State → Outcome → State → Prop} {free : Addr → Prop} {Ts : List Cond} {own C host : String} {b : Addr} {As rest : List Value} {gf : JFrame} {g : GG} {wc : va_W} {A : Nat → Prop} {q : vw_C} {fs : List Value}
theorem gRunV (S : CallFix p m c cc nL s args Ts own) (hM : Met l y ws rm (gPc g H.size wc (.ref b :: As)) Qc mc ms free) (cw : CallW R s args own C index y bytes maxL ret ws rm mc ms n) (hE : gE g s) (hP : va_P g.1 vwCl wc H) (hD : va_D A wc) (q0 ci : Nat) (hc : vwCl[ci]? = some q) (hq : q.1 = C) (he : wc[q0]? = some (b, .inr (ci, fs)))
    (hg : gf.method = m) (hn : As.length = n) (hsize : gf.locals.size = nL) (hstack : gf.stack = As.reverse ++ .ref b :: rest) (hW : 2 * gf.monitorRoom + (rest.map fun v => v.category).sum ≤ 8) (hdg : decode cc gf.pc = .ok (.invokevirtual index, 3)) (hf : cells + mc ≤ R.cells ∧ slots + ms ≤ R.slots) :
    va_Run p l e R s m args below meth c H locs cells slots mc ms gf rest (Qc (Value.ref b :: As).toArray) (free) :=
  va_runV S hM cw ⟨gPc.blind, hq ▸ va_recv hE.1 hP hc he, gPc.of hE hP hD⟩ hg hn hsize hstack hW hdg hf
theorem gRunS (S : CallFix p m c cc nL s args Ts own) (hM : Met l y ws rm (gPc g H.size wc As) Qc mc ms free) (cw : CallB R s args own index y bytes maxL ret ws rm mc ms n ∧ (Cond.static y).before args s = true) (hE : gE g s) (hP : va_P g.1 vwCl wc H) (hD : va_D A wc)
    (hg : gf.method = m) (hn : As.length = n) (hsize : gf.locals.size = nL) (hstack : gf.stack = As.reverse ++ rest) (hW : 2 * gf.monitorRoom + (rest.map fun v => v.category).sum ≤ 8) (hdg : decode cc gf.pc = .ok (.invokestatic index, 3)) (hf : cells + mc ≤ R.cells ∧ slots + ms ≤ R.slots) :
    va_Run p l e R s m args below meth c H locs cells slots mc ms gf rest (Qc As.toArray) (free) :=
  va_runS S hM cw ⟨gPc.blind, gPc.of hE hP hD⟩ hg hn hsize hstack hW hdg hf
theorem gRunSN (S : CallFix p m c cc nL s args Ts own) (hM : Met l y ws rm (gPc g H.size wc As) Qc mc ms free) (cw : va_CN R s args own index y host bytes maxL ret ws rm mc ms n ∧ (Cond.static y).before args s = true ∧ True) (hE : gE g s) (hP : va_P g.1 vwCl wc H) (hD : va_D A wc)
    (hg : gf.method = m) (hn : As.length = n) (hsize : gf.locals.size = nL) (hstack : gf.stack = As.reverse ++ rest) (hW : 2 * gf.monitorRoom + (rest.map fun v => v.category).sum ≤ 8) (hdg : decode cc gf.pc = .ok (.invokestatic index, 3)) (hf : cells + mc ≤ R.cells ∧ slots + ms ≤ R.slots) :
    va_Run p l e R s m args below meth c H locs cells slots mc ms gf rest (Qc As.toArray) (free) :=
  va_runSN S hM cw ⟨gPc.blind, gPc.of hE hP hD⟩ hg hn hsize hstack hW hdg hf
end GCALL
theorem gS0 {A : Nat → Prop} {ws : va_W} {sz : Nat} (h : va_A ws sz = A) : ∀ q : Nat, sz ≤ q → A q := fun q hq => by rw [← h]; exact Or.inr hq
/-- fewer words of hts, by place -/
theorem gW {ws : List Cond} {args : Array Value} {s : State} (hts : ∀ w ∈ ws, w.before args s = true) (i : Nat) (w : Cond) (h : ws[i]? = some w) : w.before args s = true := hts w (List.mem_of_getElem? h)
theorem gTab {x : Int32} {lo hi : Int} (h : ∀ z : Int, lo ≤ z → z ≤ hi → ¬ x.toInt = z) : x.toInt < lo ∨ hi < x.toInt := by
  by_cases h1 : x.toInt < lo
  · exact Or.inl h1
  · by_cases h2 : hi < x.toInt
    · exact Or.inr h2
    · exact absurd rfl (h x.toInt (by omega) (by omega))
