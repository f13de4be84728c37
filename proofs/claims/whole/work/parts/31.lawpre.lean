/-! the law's cases, what they ask: by program (wip/whole/gen/law.py) -/
def lwC (p : Program) (l : Launch) (s : State) (m : MethodId) (c : Code) (b L : Nat) (xs : Nat → Int32) (g : GG) (t : GT) (A : Nat → Prop) : Prop :=
  l.stackTraces = false ∧ p.tables.exec = Jvm.exec ∧ c.code = cL_law ∧ c.maxLocals = 9 ∧ s.vm.findClass RL = some m.cls ∧ (∀ w ∈ lw_tbl, w.before #[Value.ref b] s = true) ∧ gE g s ∧ gX t A s s.heap ∧ va_X b L xs s s.heap ∧ b < s.heap.size ∧ ¬ A b ∧ ∀ q, s.heap.size ≤ q → A q
theorem lw_sld {p : Program} {l : Launch} {e : Env} {R : Room} {s : State} {m : MethodId} {args : Array Value} {below : List Frame} {meth : Method} {c : Code} {H : Heap} {locs : List Loc} {cells slots : Nat} {Q : State → Prop} {cc : ByteArray} {pc : Nat} {ls : Array Slot} {rest : List Value} {A : Nat → Prop} (k : Nat) {kI : Int32} (hk : kI = nI k) (hexec : p.tables.exec = Jvm.exec) (hb : c.code = cc) {b L i : Nat} {xs : Nat → Int32} (hX : va_X b L xs s s.heap) (hbl : b < s.heap.size) (hbA : ¬ A b) (hS : va_S A s.heap H locs) (h : i + k < L) (hL : L < 2 ^ 31) (hdg : decode cc pc = .ok (.iaload, 1))
    (kk : W p l e R s m args below meth c H locs cells slots Q (F0 m (pc + 1) ls (.int (xs (i + k)) :: rest))) : W p l e R s m args below meth c H locs cells slots Q (F0 m pc ls (.int (nI i + kI) :: .ref b :: rest)) := by
  subst hk
  rw [nI_add]
  refine va_sld hexec hb hX hbl hbA hS (vp_in_nI h hL) hdg ?_
  rw [nI_clamp (by omega)]
  exact kk
theorem goodIn_mono {a b c : List Cond} (h : ∀ w ∈ a, w ∈ b) (hg : GoodIn a c) : GoodIn b c := fun w hw => ⟨h w (hg w hw).1, (hg w hw).2⟩
set_option maxRecDepth 20000 in
theorem gT_addStreet : GoodIn lw_tbl (va_wsS RL 157 yL_addStreet wsM_addStreet) := by
  have h1 := goodIn_mono wsL_law_in gL_law_L_addStreet
  have h2 : GoodIn lw_tbl [.classLink RL 13 "java/lang/IndexOutOfBoundsException", .classLink RL 15 "java/lang/IllegalArgumentException", .classLink RL 17 "java/lang/IllegalStateException"] := goodIn_of _ (by decide +kernel)
  intro w hw
  simp only [va_wsS, wsM_addStreet, List.mem_append, List.mem_cons] at hw
  simp only [GoodIn, va_wsS, List.mem_append] at h1
  rcases hw with hw | hw | hw | hw
  · exact h1 w (Or.inl (by simpa only [List.mem_cons] using hw))
  · exact h1 w (Or.inr (by rw [hw]; exact List.mem_cons_self))
  · exact h2 w (by simpa only [List.mem_cons] using hw)
  · exact h1 w (Or.inr hw)
set_option maxRecDepth 20000 in
theorem gT_addPlough : GoodIn lw_tbl (va_wsS RL 166 yL_addPlough wsM_addPlough) := by
  have h1 := goodIn_mono wsL_law_in gL_law_L_addPlough
  have h2 : GoodIn lw_tbl [.classLink RL 13 "java/lang/IndexOutOfBoundsException", .classLink RL 17 "java/lang/IllegalStateException"] := goodIn_of _ (by decide +kernel)
  intro w hw
  simp only [va_wsS, wsM_addPlough, List.mem_append, List.mem_cons] at hw
  simp only [GoodIn, va_wsS, List.mem_append] at h1
  rcases hw with hw | hw | hw | hw
  · exact h1 w (Or.inl (by simpa only [List.mem_cons] using hw))
  · exact h1 w (Or.inr (by rw [hw]; exact List.mem_cons_self))
  · exact h2 w (by simpa only [List.mem_cons] using hw)
  · exact h1 w (Or.inr hw)
set_option maxRecDepth 20000 in
theorem gT_order : GoodIn lw_tbl (va_wsS RL 170 yL_order wsM_order) := by
  have h1 := goodIn_mono wsL_law_in gL_law_L_order
  have h2 : GoodIn lw_tbl [.classLink RL 13 "java/lang/IndexOutOfBoundsException", .classLink RL 17 "java/lang/IllegalStateException"] := goodIn_of _ (by decide +kernel)
  intro w hw
  simp only [va_wsS, wsM_order, List.mem_append, List.mem_cons] at hw
  simp only [GoodIn, va_wsS, List.mem_append] at h1
  rcases hw with hw | hw | hw | hw
  · exact h1 w (Or.inl (by simpa only [List.mem_cons] using hw))
  · exact h1 w (Or.inr (by rw [hw]; exact List.mem_cons_self))
  · exact h2 w (by simpa only [List.mem_cons] using hw)
  · exact h1 w (Or.inr hw)
set_option maxRecDepth 20000 in
theorem gT_cancelOrder : GoodIn lw_tbl (va_wsS RL 174 yL_cancelOrder wsM_cancelOrder) := by
  have h1 := goodIn_mono wsL_law_in gL_law_L_cancelOrder
  have h2 : GoodIn lw_tbl [.classLink RL 13 "java/lang/IndexOutOfBoundsException", .classLink RL 30 "java/util/NoSuchElementException"] := goodIn_of _ (by decide +kernel)
  intro w hw
  simp only [va_wsS, wsM_cancelOrder, List.mem_append, List.mem_cons] at hw
  simp only [GoodIn, va_wsS, List.mem_append] at h1
  rcases hw with hw | hw | hw | hw
  · exact h1 w (Or.inl (by simpa only [List.mem_cons] using hw))
  · exact h1 w (Or.inr (by rw [hw]; exact List.mem_cons_self))
  · exact h2 w (by simpa only [List.mem_cons] using hw)
  · exact h1 w (Or.inr hw)
set_option maxRecDepth 20000 in
theorem gT_salt : GoodIn lw_tbl (va_wsS RL 177 yL_salt wsM_salt) := by
  have h1 := goodIn_mono wsL_law_in gL_law_L_salt
  have h2 : GoodIn lw_tbl [.classLink RL 13 "java/lang/IndexOutOfBoundsException", .classLink RL 35 "java/lang/UnsupportedOperationException", .classLink RL 17 "java/lang/IllegalStateException"] := goodIn_of _ (by decide +kernel)
  intro w hw
  simp only [va_wsS, wsM_salt, List.mem_append, List.mem_cons] at hw
  simp only [GoodIn, va_wsS, List.mem_append] at h1
  rcases hw with hw | hw | hw | hw
  · exact h1 w (Or.inl (by simpa only [List.mem_cons] using hw))
  · exact h1 w (Or.inr (by rw [hw]; exact List.mem_cons_self))
  · exact h2 w (by simpa only [List.mem_cons] using hw)
  · exact h1 w (Or.inr hw)
set_option maxRecDepth 20000 in
theorem gT_loadSalt : GoodIn lw_tbl (va_wsS RL 180 yL_loadSalt wsM_loadSalt) := by
  have h1 := goodIn_mono wsL_law_in gL_law_L_loadSalt
  have h2 : GoodIn lw_tbl [.classLink RL 15 "java/lang/IllegalArgumentException", .classLink RL 35 "java/lang/UnsupportedOperationException"] := goodIn_of _ (by decide +kernel)
  intro w hw
  simp only [va_wsS, wsM_loadSalt, List.mem_append, List.mem_cons] at hw
  simp only [GoodIn, va_wsS, List.mem_append] at h1
  rcases hw with hw | hw | hw | hw
  · exact h1 w (Or.inl (by simpa only [List.mem_cons] using hw))
  · exact h1 w (Or.inr (by rw [hw]; exact List.mem_cons_self))
  · exact h2 w (by simpa only [List.mem_cons] using hw)
  · exact h1 w (Or.inr hw)
set_option maxRecDepth 20000 in
theorem gT_setSnowfall : GoodIn lw_tbl (va_wsS RL 183 yL_setSnowfall wsM_setSnowfall) := by
  have h1 := goodIn_mono wsL_law_in gL_law_L_setSnowfall
  have h2 : GoodIn lw_tbl [.classLink RL 15 "java/lang/IllegalArgumentException"] := goodIn_of _ (by decide +kernel)
  intro w hw
  simp only [va_wsS, wsM_setSnowfall, List.mem_append, List.mem_cons] at hw
  simp only [GoodIn, va_wsS, List.mem_append] at h1
  rcases hw with hw | hw | hw | hw
  · exact h1 w (Or.inl (by simpa only [List.mem_cons] using hw))
  · exact h1 w (Or.inr (by rw [hw]; exact List.mem_cons_self))
  · exact h2 w (by simpa only [List.mem_cons] using hw)
  · exact h1 w (Or.inr hw)
set_option maxRecDepth 20000 in
theorem gT_setWind : GoodIn lw_tbl (va_wsS RL 186 yL_setWind wsM_setWind) := by
  have h1 := goodIn_mono wsL_law_in gL_law_L_setWind
  have h2 : GoodIn lw_tbl [.classLink RL 15 "java/lang/IllegalArgumentException"] := goodIn_of _ (by decide +kernel)
  intro w hw
  simp only [va_wsS, wsM_setWind, List.mem_append, List.mem_cons] at hw
  simp only [GoodIn, va_wsS, List.mem_append] at h1
  rcases hw with hw | hw | hw | hw
  · exact h1 w (Or.inl (by simpa only [List.mem_cons] using hw))
  · exact h1 w (Or.inr (by rw [hw]; exact List.mem_cons_self))
  · exact h2 w (by simpa only [List.mem_cons] using hw)
  · exact h1 w (Or.inr hw)
set_option maxRecDepth 20000 in
theorem gT_advance : GoodIn lw_tbl (va_wsS RL 189 yL_advance wsM_advance) := by
  have h1 := goodIn_mono wsL_law_in gL_law_L_advance
  have h2 : GoodIn lw_tbl [.classLink RL 15 "java/lang/IllegalArgumentException"] := goodIn_of _ (by decide +kernel)
  intro w hw
  simp only [va_wsS, wsM_advance, List.mem_append, List.mem_cons] at hw
  simp only [GoodIn, va_wsS, List.mem_append] at h1
  rcases hw with hw | hw | hw | hw
  · exact h1 w (Or.inl (by simpa only [List.mem_cons] using hw))
  · exact h1 w (Or.inr (by rw [hw]; exact List.mem_cons_self))
  · exact h2 w (by simpa only [List.mem_cons] using hw)
  · exact h1 w (Or.inr hw)
set_option maxRecDepth 20000 in
theorem gT_lowerEnd : GoodIn lw_tbl (va_wsS RL 196 yL_lowerEnd wsM_lowerEnd) := by
  have h1 := goodIn_mono wsL_law_in gL_law_L_lowerEnd
  have h2 : GoodIn lw_tbl [.classLink RL 13 "java/lang/IndexOutOfBoundsException"] := goodIn_of _ (by decide +kernel)
  intro w hw
  simp only [va_wsS, wsM_lowerEnd, List.mem_append, List.mem_cons] at hw
  simp only [GoodIn, va_wsS, List.mem_append] at h1
  rcases hw with hw | hw | hw | hw
  · exact h1 w (Or.inl (by simpa only [List.mem_cons] using hw))
  · exact h1 w (Or.inr (by rw [hw]; exact List.mem_cons_self))
  · exact h2 w (by simpa only [List.mem_cons] using hw)
  · exact h1 w (Or.inr hw)
set_option maxRecDepth 20000 in
theorem gT_higherEnd : GoodIn lw_tbl (va_wsS RL 199 yL_higherEnd wsM_higherEnd) := by
  have h1 := goodIn_mono wsL_law_in gL_law_L_higherEnd
  have h2 : GoodIn lw_tbl [.classLink RL 13 "java/lang/IndexOutOfBoundsException"] := goodIn_of _ (by decide +kernel)
  intro w hw
  simp only [va_wsS, wsM_higherEnd, List.mem_append, List.mem_cons] at hw
  simp only [GoodIn, va_wsS, List.mem_append] at h1
  rcases hw with hw | hw | hw | hw
  · exact h1 w (Or.inl (by simpa only [List.mem_cons] using hw))
  · exact h1 w (Or.inr (by rw [hw]; exact List.mem_cons_self))
  · exact h2 w (by simpa only [List.mem_cons] using hw)
  · exact h1 w (Or.inr hw)
set_option maxRecDepth 20000 in
theorem gT_streetClass : GoodIn lw_tbl (va_wsS RL 202 yL_streetClass wsM_streetClass) := by
  have h1 := goodIn_mono wsL_law_in gL_law_L_streetClass
  have h2 : GoodIn lw_tbl [.classLink RL 13 "java/lang/IndexOutOfBoundsException"] := goodIn_of _ (by decide +kernel)
  intro w hw
  simp only [va_wsS, wsM_streetClass, List.mem_append, List.mem_cons] at hw
  simp only [GoodIn, va_wsS, List.mem_append] at h1
  rcases hw with hw | hw | hw | hw
  · exact h1 w (Or.inl (by simpa only [List.mem_cons] using hw))
  · exact h1 w (Or.inr (by rw [hw]; exact List.mem_cons_self))
  · exact h2 w (by simpa only [List.mem_cons] using hw)
  · exact h1 w (Or.inr hw)
set_option maxRecDepth 20000 in
theorem gT_length : GoodIn lw_tbl (va_wsS RL 205 yL_length wsM_length) := by
  have h1 := goodIn_mono wsL_law_in gL_law_L_length
  have h2 : GoodIn lw_tbl [.classLink RL 13 "java/lang/IndexOutOfBoundsException"] := goodIn_of _ (by decide +kernel)
  intro w hw
  simp only [va_wsS, wsM_length, List.mem_append, List.mem_cons] at hw
  simp only [GoodIn, va_wsS, List.mem_append] at h1
  rcases hw with hw | hw | hw | hw
  · exact h1 w (Or.inl (by simpa only [List.mem_cons] using hw))
  · exact h1 w (Or.inr (by rw [hw]; exact List.mem_cons_self))
  · exact h2 w (by simpa only [List.mem_cons] using hw)
  · exact h1 w (Or.inr hw)
set_option maxRecDepth 20000 in
theorem gT_depth : GoodIn lw_tbl (va_wsS RL 208 yL_depth wsM_depth) := by
  have h1 := goodIn_mono wsL_law_in gL_law_L_depth
  have h2 : GoodIn lw_tbl [.classLink RL 13 "java/lang/IndexOutOfBoundsException"] := goodIn_of _ (by decide +kernel)
  intro w hw
  simp only [va_wsS, wsM_depth, List.mem_append, List.mem_cons] at hw
  simp only [GoodIn, va_wsS, List.mem_append] at h1
  rcases hw with hw | hw | hw | hw
  · exact h1 w (Or.inl (by simpa only [List.mem_cons] using hw))
  · exact h1 w (Or.inr (by rw [hw]; exact List.mem_cons_self))
  · exact h2 w (by simpa only [List.mem_cons] using hw)
  · exact h1 w (Or.inr hw)
set_option maxRecDepth 20000 in
theorem gT_isOverdue : GoodIn lw_tbl (va_wsS RL 211 yL_isOverdue wsM_isOverdue) := by
  have h1 := goodIn_mono wsL_law_in gL_law_L_isOverdue
  have h2 : GoodIn lw_tbl [.classLink RL 13 "java/lang/IndexOutOfBoundsException"] := goodIn_of _ (by decide +kernel)
  intro w hw
  simp only [va_wsS, wsM_isOverdue, List.mem_append, List.mem_cons] at hw
  simp only [GoodIn, va_wsS, List.mem_append] at h1
  rcases hw with hw | hw | hw | hw
  · exact h1 w (Or.inl (by simpa only [List.mem_cons] using hw))
  · exact h1 w (Or.inr (by rw [hw]; exact List.mem_cons_self))
  · exact h2 w (by simpa only [List.mem_cons] using hw)
  · exact h1 w (Or.inr hw)
set_option maxRecDepth 20000 in
theorem gT_isSalted : GoodIn lw_tbl (va_wsS RL 214 yL_isSalted wsM_isSalted) := by
  have h1 := goodIn_mono wsL_law_in gL_law_L_isSalted
  have h2 : GoodIn lw_tbl [.classLink RL 13 "java/lang/IndexOutOfBoundsException"] := goodIn_of _ (by decide +kernel)
  intro w hw
  simp only [va_wsS, wsM_isSalted, List.mem_append, List.mem_cons] at hw
  simp only [GoodIn, va_wsS, List.mem_append] at h1
  rcases hw with hw | hw | hw | hw
  · exact h1 w (Or.inl (by simpa only [List.mem_cons] using hw))
  · exact h1 w (Or.inr (by rw [hw]; exact List.mem_cons_self))
  · exact h2 w (by simpa only [List.mem_cons] using hw)
  · exact h1 w (Or.inr hw)
set_option maxRecDepth 20000 in
theorem gT_saltMinutes : GoodIn lw_tbl (va_wsS RL 217 yL_saltMinutes wsM_saltMinutes) := by
  have h1 := goodIn_mono wsL_law_in gL_law_L_saltMinutes
  have h2 : GoodIn lw_tbl [.classLink RL 13 "java/lang/IndexOutOfBoundsException", .classLink RL 30 "java/util/NoSuchElementException"] := goodIn_of _ (by decide +kernel)
  intro w hw
  simp only [va_wsS, wsM_saltMinutes, List.mem_append, List.mem_cons] at hw
  simp only [GoodIn, va_wsS, List.mem_append] at h1
  rcases hw with hw | hw | hw | hw
  · exact h1 w (Or.inl (by simpa only [List.mem_cons] using hw))
  · exact h1 w (Or.inr (by rw [hw]; exact List.mem_cons_self))
  · exact h2 w (by simpa only [List.mem_cons] using hw)
  · exact h1 w (Or.inr hw)
set_option maxRecDepth 20000 in
theorem gT_complaints : GoodIn lw_tbl (va_wsS RL 220 yL_complaints wsM_complaints) := by
  have h1 := goodIn_mono wsL_law_in gL_law_L_complaints
  have h2 : GoodIn lw_tbl [.classLink RL 13 "java/lang/IndexOutOfBoundsException"] := goodIn_of _ (by decide +kernel)
  intro w hw
  simp only [va_wsS, wsM_complaints, List.mem_append, List.mem_cons] at hw
  simp only [GoodIn, va_wsS, List.mem_append] at h1
  rcases hw with hw | hw | hw | hw
  · exact h1 w (Or.inl (by simpa only [List.mem_cons] using hw))
  · exact h1 w (Or.inr (by rw [hw]; exact List.mem_cons_self))
  · exact h2 w (by simpa only [List.mem_cons] using hw)
  · exact h1 w (Or.inr hw)
set_option maxRecDepth 20000 in
theorem gT_distance : GoodIn lw_tbl (va_wsS RL 223 yL_distance wsM_distance) := by
  have h1 := goodIn_mono wsL_law_in gL_law_L_distance
  have h2 : GoodIn lw_tbl [.classLink RL 13 "java/lang/IndexOutOfBoundsException", .classLink RL 30 "java/util/NoSuchElementException"] := goodIn_of _ (by decide +kernel)
  intro w hw
  simp only [va_wsS, wsM_distance, List.mem_append, List.mem_cons] at hw
  simp only [GoodIn, va_wsS, List.mem_append] at h1
  rcases hw with hw | hw | hw | hw
  · exact h1 w (Or.inl (by simpa only [List.mem_cons] using hw))
  · exact h1 w (Or.inr (by rw [hw]; exact List.mem_cons_self))
  · exact h2 w (by simpa only [List.mem_cons] using hw)
  · exact h1 w (Or.inr hw)
set_option maxRecDepth 20000 in
theorem gT_distanceByJunctions : GoodIn lw_tbl (va_wsS RL 226 yL_distanceByJunctions wsM_distanceByJunctions) := by
  have h1 := goodIn_mono wsL_law_in gL_law_L_distanceByJunctions
  have h2 : GoodIn lw_tbl [.classLink RL 13 "java/lang/IndexOutOfBoundsException", .classLink RL 30 "java/util/NoSuchElementException"] := goodIn_of _ (by decide +kernel)
  intro w hw
  simp only [va_wsS, wsM_distanceByJunctions, List.mem_append, List.mem_cons] at hw
  simp only [GoodIn, va_wsS, List.mem_append] at h1
  rcases hw with hw | hw | hw | hw
  · exact h1 w (Or.inl (by simpa only [List.mem_cons] using hw))
  · exact h1 w (Or.inr (by rw [hw]; exact List.mem_cons_self))
  · exact h2 w (by simpa only [List.mem_cons] using hw)
  · exact h1 w (Or.inr hw)
set_option maxRecDepth 20000 in
theorem gT_streetByUrgency : GoodIn lw_tbl (va_wsS RL 229 yL_streetByUrgency wsM_streetByUrgency) := by
  have h1 := goodIn_mono wsL_law_in gL_law_L_streetByUrgency
  have h2 : GoodIn lw_tbl [.classLink RL 30 "java/util/NoSuchElementException"] := goodIn_of _ (by decide +kernel)
  intro w hw
  simp only [va_wsS, wsM_streetByUrgency, List.mem_append, List.mem_cons] at hw
  simp only [GoodIn, va_wsS, List.mem_append] at h1
  rcases hw with hw | hw | hw | hw
  · exact h1 w (Or.inl (by simpa only [List.mem_cons] using hw))
  · exact h1 w (Or.inr (by rw [hw]; exact List.mem_cons_self))
  · exact h2 w (by simpa only [List.mem_cons] using hw)
  · exact h1 w (Or.inr hw)
set_option maxRecDepth 20000 in
theorem gT_isBusy : GoodIn lw_tbl (va_wsS RL 236 yL_isBusy wsM_isBusy) := by
  have h1 := goodIn_mono wsL_law_in gL_law_L_isBusy
  have h2 : GoodIn lw_tbl [.classLink RL 13 "java/lang/IndexOutOfBoundsException"] := goodIn_of _ (by decide +kernel)
  intro w hw
  simp only [va_wsS, wsM_isBusy, List.mem_append, List.mem_cons] at hw
  simp only [GoodIn, va_wsS, List.mem_append] at h1
  rcases hw with hw | hw | hw | hw
  · exact h1 w (Or.inl (by simpa only [List.mem_cons] using hw))
  · exact h1 w (Or.inr (by rw [hw]; exact List.mem_cons_self))
  · exact h2 w (by simpa only [List.mem_cons] using hw)
  · exact h1 w (Or.inr hw)
set_option maxRecDepth 20000 in
theorem gT_junction : GoodIn lw_tbl (va_wsS RL 239 yL_junction wsM_junction) := by
  have h1 := goodIn_mono wsL_law_in gL_law_L_junction
  have h2 : GoodIn lw_tbl [.classLink RL 13 "java/lang/IndexOutOfBoundsException"] := goodIn_of _ (by decide +kernel)
  intro w hw
  simp only [va_wsS, wsM_junction, List.mem_append, List.mem_cons] at hw
  simp only [GoodIn, va_wsS, List.mem_append] at h1
  rcases hw with hw | hw | hw | hw
  · exact h1 w (Or.inl (by simpa only [List.mem_cons] using hw))
  · exact h1 w (Or.inr (by rw [hw]; exact List.mem_cons_self))
  · exact h2 w (by simpa only [List.mem_cons] using hw)
  · exact h1 w (Or.inr hw)
set_option maxRecDepth 20000 in
theorem gT_currentStreet : GoodIn lw_tbl (va_wsS RL 242 yL_currentStreet wsM_currentStreet) := by
  have h1 := goodIn_mono wsL_law_in gL_law_L_currentStreet
  have h2 : GoodIn lw_tbl [.classLink RL 13 "java/lang/IndexOutOfBoundsException", .classLink RL 30 "java/util/NoSuchElementException"] := goodIn_of _ (by decide +kernel)
  intro w hw
  simp only [va_wsS, wsM_currentStreet, List.mem_append, List.mem_cons] at hw
  simp only [GoodIn, va_wsS, List.mem_append] at h1
  rcases hw with hw | hw | hw | hw
  · exact h1 w (Or.inl (by simpa only [List.mem_cons] using hw))
  · exact h1 w (Or.inr (by rw [hw]; exact List.mem_cons_self))
  · exact h2 w (by simpa only [List.mem_cons] using hw)
  · exact h1 w (Or.inr hw)
set_option maxRecDepth 20000 in
theorem gT_busyMinutes : GoodIn lw_tbl (va_wsS RL 245 yL_busyMinutes wsM_busyMinutes) := by
  have h1 := goodIn_mono wsL_law_in gL_law_L_busyMinutes
  have h2 : GoodIn lw_tbl [.classLink RL 13 "java/lang/IndexOutOfBoundsException"] := goodIn_of _ (by decide +kernel)
  intro w hw
  simp only [va_wsS, wsM_busyMinutes, List.mem_append, List.mem_cons] at hw
  simp only [GoodIn, va_wsS, List.mem_append] at h1
  rcases hw with hw | hw | hw | hw
  · exact h1 w (Or.inl (by simpa only [List.mem_cons] using hw))
  · exact h1 w (Or.inr (by rw [hw]; exact List.mem_cons_self))
  · exact h2 w (by simpa only [List.mem_cons] using hw)
  · exact h1 w (Or.inr hw)
set_option maxRecDepth 20000 in
theorem gT_queueLength : GoodIn lw_tbl (va_wsS RL 248 yL_queueLength wsM_queueLength) := by
  have h1 := goodIn_mono wsL_law_in gL_law_L_queueLength
  have h2 : GoodIn lw_tbl [.classLink RL 13 "java/lang/IndexOutOfBoundsException"] := goodIn_of _ (by decide +kernel)
  intro w hw
  simp only [va_wsS, wsM_queueLength, List.mem_append, List.mem_cons] at hw
  simp only [GoodIn, va_wsS, List.mem_append] at h1
  rcases hw with hw | hw | hw | hw
  · exact h1 w (Or.inl (by simpa only [List.mem_cons] using hw))
  · exact h1 w (Or.inr (by rw [hw]; exact List.mem_cons_self))
  · exact h2 w (by simpa only [List.mem_cons] using hw)
  · exact h1 w (Or.inr hw)
set_option maxRecDepth 20000 in
theorem gT_queuedStreet : GoodIn lw_tbl (va_wsS RL 251 yL_queuedStreet wsM_queuedStreet) := by
  have h1 := goodIn_mono wsL_law_in gL_law_L_queuedStreet
  have h2 : GoodIn lw_tbl [.classLink RL 13 "java/lang/IndexOutOfBoundsException", .classLink RL 30 "java/util/NoSuchElementException"] := goodIn_of _ (by decide +kernel)
  intro w hw
  simp only [va_wsS, wsM_queuedStreet, List.mem_append, List.mem_cons] at hw
  simp only [GoodIn, va_wsS, List.mem_append] at h1
  rcases hw with hw | hw | hw | hw
  · exact h1 w (Or.inl (by simpa only [List.mem_cons] using hw))
  · exact h1 w (Or.inr (by rw [hw]; exact List.mem_cons_self))
  · exact h2 w (by simpa only [List.mem_cons] using hw)
  · exact h1 w (Or.inr hw)
set_option maxRecDepth 20000 in
theorem gT_orderMinutes : GoodIn lw_tbl (va_wsS RL 254 yL_orderMinutes wsM_orderMinutes) := by
  have h1 := goodIn_mono wsL_law_in gL_law_L_orderMinutes
  have h2 : GoodIn lw_tbl [.classLink RL 13 "java/lang/IndexOutOfBoundsException", .classLink RL 30 "java/util/NoSuchElementException"] := goodIn_of _ (by decide +kernel)
  intro w hw
  simp only [va_wsS, wsM_orderMinutes, List.mem_append, List.mem_cons] at hw
  simp only [GoodIn, va_wsS, List.mem_append] at h1
  rcases hw with hw | hw | hw | hw
  · exact h1 w (Or.inl (by simpa only [List.mem_cons] using hw))
  · exact h1 w (Or.inr (by rw [hw]; exact List.mem_cons_self))
  · exact h2 w (by simpa only [List.mem_cons] using hw)
  · exact h1 w (Or.inr hw)
set_option maxRecDepth 20000 in
theorem gT_minutesUntilCleared : GoodIn lw_tbl (va_wsS RL 257 yL_minutesUntilCleared wsM_minutesUntilCleared) := by
  have h1 := goodIn_mono wsL_law_in gL_law_L_minutesUntilCleared
  have h2 : GoodIn lw_tbl [.classLink RL 13 "java/lang/IndexOutOfBoundsException", .classLink RL 30 "java/util/NoSuchElementException"] := goodIn_of _ (by decide +kernel)
  intro w hw
  simp only [va_wsS, wsM_minutesUntilCleared, List.mem_append, List.mem_cons] at hw
  simp only [GoodIn, va_wsS, List.mem_append] at h1
  rcases hw with hw | hw | hw | hw
  · exact h1 w (Or.inl (by simpa only [List.mem_cons] using hw))
  · exact h1 w (Or.inr (by rw [hw]; exact List.mem_cons_self))
  · exact h2 w (by simpa only [List.mem_cons] using hw)
  · exact h1 w (Or.inr hw)
set_option maxRecDepth 20000 in
theorem gT_depthAfter : GoodIn lw_tbl (va_wsS RL 260 yL_depthAfter wsM_depthAfter) := by
  have h1 := goodIn_mono wsL_law_in gL_law_L_depthAfter
  have h2 : GoodIn lw_tbl [.classLink RL 13 "java/lang/IndexOutOfBoundsException", .classLink RL 15 "java/lang/IllegalArgumentException"] := goodIn_of _ (by decide +kernel)
  intro w hw
  simp only [va_wsS, wsM_depthAfter, List.mem_append, List.mem_cons] at hw
  simp only [GoodIn, va_wsS, List.mem_append] at h1
  rcases hw with hw | hw | hw | hw
  · exact h1 w (Or.inl (by simpa only [List.mem_cons] using hw))
  · exact h1 w (Or.inr (by rw [hw]; exact List.mem_cons_self))
  · exact h2 w (by simpa only [List.mem_cons] using hw)
  · exact h1 w (Or.inr hw)
set_option maxRecDepth 20000 in
theorem gT_meanDepth : GoodIn lw_tbl (va_wsS RL 295 yL_meanDepth wsM_meanDepth) := by
  have h1 := goodIn_mono wsL_law_in gL_law_L_meanDepth
  have h2 : GoodIn lw_tbl [.classLink RL 118 "java/lang/ArithmeticException"] := goodIn_of _ (by decide +kernel)
  intro w hw
  simp only [va_wsS, wsM_meanDepth, List.mem_append, List.mem_cons] at hw
  simp only [GoodIn, va_wsS, List.mem_append] at h1
  rcases hw with hw | hw | hw | hw
  · exact h1 w (Or.inl (by simpa only [List.mem_cons] using hw))
  · exact h1 w (Or.inr (by rw [hw]; exact List.mem_cons_self))
  · exact h2 w (by simpa only [List.mem_cons] using hw)
  · exact h1 w (Or.inr hw)
set_option maxRecDepth 20000 in
theorem gT_saltedShare : GoodIn lw_tbl (va_wsS RL 299 yL_saltedShare wsM_saltedShare) := by
  have h1 := goodIn_mono wsL_law_in gL_law_L_saltedShare
  have h2 : GoodIn lw_tbl [.classLink RL 118 "java/lang/ArithmeticException"] := goodIn_of _ (by decide +kernel)
  intro w hw
  simp only [va_wsS, wsM_saltedShare, List.mem_append, List.mem_cons] at hw
  simp only [GoodIn, va_wsS, List.mem_append] at h1
  rcases hw with hw | hw | hw | hw
  · exact h1 w (Or.inl (by simpa only [List.mem_cons] using hw))
  · exact h1 w (Or.inr (by rw [hw]; exact List.mem_cons_self))
  · exact h2 w (by simpa only [List.mem_cons] using hw)
  · exact h1 w (Or.inr hw)
set_option maxRecDepth 20000 in
theorem gT_renderStreet : GoodIn lw_tbl (va_wsS RL 307 yL_renderStreet wsM_renderStreet) := by
  have h1 := goodIn_mono wsL_law_in gL_law_L_renderStreet
  have h2 : GoodIn lw_tbl [.classLink RL 13 "java/lang/IndexOutOfBoundsException"] := goodIn_of _ (by decide +kernel)
  intro w hw
  simp only [va_wsS, wsM_renderStreet, List.mem_append, List.mem_cons] at hw
  simp only [GoodIn, va_wsS, List.mem_append] at h1
  rcases hw with hw | hw | hw | hw
  · exact h1 w (Or.inl (by simpa only [List.mem_cons] using hw))
  · exact h1 w (Or.inr (by rw [hw]; exact List.mem_cons_self))
  · exact h2 w (by simpa only [List.mem_cons] using hw)
  · exact h1 w (Or.inr hw)
set_option maxRecDepth 20000 in
theorem gT_renderQueue : GoodIn lw_tbl (va_wsS RL 310 yL_renderQueue wsM_renderQueue) := by
  have h1 := goodIn_mono wsL_law_in gL_law_L_renderQueue
  have h2 : GoodIn lw_tbl [.classLink RL 13 "java/lang/IndexOutOfBoundsException"] := goodIn_of _ (by decide +kernel)
  intro w hw
  simp only [va_wsS, wsM_renderQueue, List.mem_append, List.mem_cons] at hw
  simp only [GoodIn, va_wsS, List.mem_append] at h1
  rcases hw with hw | hw | hw | hw
  · exact h1 w (Or.inl (by simpa only [List.mem_cons] using hw))
  · exact h1 w (Or.inr (by rw [hw]; exact List.mem_cons_self))
  · exact h2 w (by simpa only [List.mem_cons] using hw)
  · exact h1 w (Or.inr hw)
set_option maxRecDepth 20000 in
theorem gT_outputAt : GoodIn lw_tbl (va_wsS RL 313 yL_outputAt wsM_outputAt) := by
  have h1 := goodIn_mono wsL_law_in gL_law_L_outputAt
  have h2 : GoodIn lw_tbl [.classLink RL 13 "java/lang/IndexOutOfBoundsException"] := goodIn_of _ (by decide +kernel)
  intro w hw
  simp only [va_wsS, wsM_outputAt, List.mem_append, List.mem_cons] at hw
  simp only [GoodIn, va_wsS, List.mem_append] at h1
  rcases hw with hw | hw | hw | hw
  · exact h1 w (Or.inl (by simpa only [List.mem_cons] using hw))
  · exact h1 w (Or.inr (by rw [hw]; exact List.mem_cons_self))
  · exact h2 w (by simpa only [List.mem_cons] using hw)
  · exact h1 w (Or.inr hw)
set_option maxRecDepth 20000 in
theorem gT_type : GoodIn lw_tbl (va_wsS RL 316 yL_type wsM_type) := by
  have h1 := goodIn_mono wsL_law_in gL_law_L_type
  have h2 : GoodIn lw_tbl [.classLink RL 15 "java/lang/IllegalArgumentException", .classLink RL 17 "java/lang/IllegalStateException"] := goodIn_of _ (by decide +kernel)
  intro w hw
  simp only [va_wsS, wsM_type, List.mem_append, List.mem_cons] at hw
  simp only [GoodIn, va_wsS, List.mem_append] at h1
  rcases hw with hw | hw | hw | hw
  · exact h1 w (Or.inl (by simpa only [List.mem_cons] using hw))
  · exact h1 w (Or.inr (by rw [hw]; exact List.mem_cons_self))
  · exact h2 w (by simpa only [List.mem_cons] using hw)
  · exact h1 w (Or.inr hw)
set_option maxRecDepth 20000 in
theorem gT_runScript : GoodIn lw_tbl (va_wsS RL 320 yL_runScript wsM_runScript) := by
  have h1 := goodIn_mono wsL_law_in gL_law_L_runScript
  have h2 : GoodIn lw_tbl [.classLink RL 15 "java/lang/IllegalArgumentException", .classLink RL 17 "java/lang/IllegalStateException"] := goodIn_of _ (by decide +kernel)
  intro w hw
  simp only [va_wsS, wsM_runScript, List.mem_append, List.mem_cons] at hw
  simp only [GoodIn, va_wsS, List.mem_append] at h1
  rcases hw with hw | hw | hw | hw
  · exact h1 w (Or.inl (by simpa only [List.mem_cons] using hw))
  · exact h1 w (Or.inr (by rw [hw]; exact List.mem_cons_self))
  · exact h2 w (by simpa only [List.mem_cons] using hw)
  · exact h1 w (Or.inr hw)
set_option maxRecDepth 20000 in
theorem gT_errorPosition : GoodIn lw_tbl (va_wsS RL 324 yL_errorPosition wsM_errorPosition) := by
  have h1 := goodIn_mono wsL_law_in gL_law_L_errorPosition
  have h2 : GoodIn lw_tbl [.classLink RL 30 "java/util/NoSuchElementException"] := goodIn_of _ (by decide +kernel)
  intro w hw
  simp only [va_wsS, wsM_errorPosition, List.mem_append, List.mem_cons] at hw
  simp only [GoodIn, va_wsS, List.mem_append] at h1
  rcases hw with hw | hw | hw | hw
  · exact h1 w (Or.inl (by simpa only [List.mem_cons] using hw))
  · exact h1 w (Or.inr (by rw [hw]; exact List.mem_cons_self))
  · exact h2 w (by simpa only [List.mem_cons] using hw)
  · exact h1 w (Or.inr hw)
set_option maxRecDepth 20000 in
theorem gT_failedCommand : GoodIn lw_tbl (va_wsS RL 327 yL_failedCommand wsM_failedCommand) := by
  have h1 := goodIn_mono wsL_law_in gL_law_L_failedCommand
  have h2 : GoodIn lw_tbl [.classLink RL 30 "java/util/NoSuchElementException"] := goodIn_of _ (by decide +kernel)
  intro w hw
  simp only [va_wsS, wsM_failedCommand, List.mem_append, List.mem_cons] at hw
  simp only [GoodIn, va_wsS, List.mem_append] at h1
  rcases hw with hw | hw | hw | hw
  · exact h1 w (Or.inl (by simpa only [List.mem_cons] using hw))
  · exact h1 w (Or.inr (by rw [hw]; exact List.mem_cons_self))
  · exact h2 w (by simpa only [List.mem_cons] using hw)
  · exact h1 w (Or.inr hw)
set_option maxRecDepth 20000 in
theorem gT_undo : GoodIn lw_tbl (va_wsS RL 330 yL_undo wsM_undo) := by
  have h1 := goodIn_mono wsL_law_in gL_law_L_undo
  have h2 : GoodIn lw_tbl [.classLink RL 30 "java/util/NoSuchElementException"] := goodIn_of _ (by decide +kernel)
  intro w hw
  simp only [va_wsS, wsM_undo, List.mem_append, List.mem_cons] at hw
  simp only [GoodIn, va_wsS, List.mem_append] at h1
  rcases hw with hw | hw | hw | hw
  · exact h1 w (Or.inl (by simpa only [List.mem_cons] using hw))
  · exact h1 w (Or.inr (by rw [hw]; exact List.mem_cons_self))
  · exact h2 w (by simpa only [List.mem_cons] using hw)
  · exact h1 w (Or.inr hw)
set_option maxRecDepth 20000 in
theorem gT_restore : GoodIn lw_tbl (va_wsS RL 337 yL_restore wsM_restore) := by
  have h1 := goodIn_mono wsL_law_in gL_law_L_restore
  have h2 : GoodIn lw_tbl [.classLink RL 17 "java/lang/IllegalStateException"] := goodIn_of _ (by decide +kernel)
  intro w hw
  simp only [va_wsS, wsM_restore, List.mem_append, List.mem_cons] at hw
  simp only [GoodIn, va_wsS, List.mem_append] at h1
  rcases hw with hw | hw | hw | hw
  · exact h1 w (Or.inl (by simpa only [List.mem_cons] using hw))
  · exact h1 w (Or.inr (by rw [hw]; exact List.mem_cons_self))
  · exact h2 w (by simpa only [List.mem_cons] using hw)
  · exact h1 w (Or.inr hw)
def wpL_c0 (v1 : Int32) (v2 : Int32) (v3 : Int32) (v4 : Int32) (t_time : Int32) (t_store : Int32) (t_rate : Int32) (t_force : Int32) (t_cleared : Int32) (t_ploughed : Int32) (t_failed : Int32) (t_complained : Int32) (s_lower : Nat → Int32) (s_higher : Nat → Int32) (s_kind : Nat → Int32) (s_size : Nat → Int32) (s_snow : Nat → Int32) (s_saltEnd : Nat → Int32) (s_complained : Nat → Int32) (s_clearings : Nat → Int32) (s_count : Int32) (q_place : Nat → Int32) (q_target : Nat → Int32) (q_minutesLeft : Nat → Int32) (q_waiting : Nat → Int32) (q_orders : Nat → Int32) (q_count : Int32) (h_free : Int32) (h_count : Int32) (R : Nat → TT) (m_changes : Int32) (m_thrown : Int32) (m_s : Nat → Int32) (m_was : Nat → Int32) (m_past : Nat → Int32) (o : Nat → Int64) (K : (Nat → Int32) → (Nat → Int32) → (Nat → Int32) → (Nat → Int32) → (Nat → Int32) → (Nat → Int32) → (Nat → Int32) → (Nat → Int32) → Int32 → Int32 → Int32 → (Nat → TT) → Int32 → Int32 → (Nat → Int32) → (Nat → Int32) → (Nat → Int32) → (Nat → Int64) → Prop) : Prop :=
  wpL_addStreet (xs (i + 1)) (xs (i + 2)) (((xs (i + 3)).toUInt32 % 65536).toInt32) (xs (i + 4)) t_time t_store t_rate t_force t_cleared t_ploughed t_failed t_complained s_lower s_higher s_kind s_size s_snow s_saltEnd s_complained s_clearings s_count q_place q_target q_minutesLeft q_waiting q_orders q_count h_free h_count R o (fun r1 s_lower_v1 s_higher_v1 s_kind_v1 s_size_v1 s_snow_v1 s_saltEnd_v1 s_complained_v1 s_clearings_v1 s_count_v1 h_free_v1 h_count_v1 R_v1 o_v1 => wpX7_addStreet (xs (i + 1)) (xs (i + 2)) (((xs (i + 3)).toUInt32 % 65536).toInt32) (xs (i + 4)) m_changes m_thrown m_s m_was m_past (fun r2 m_changes_v2 m_thrown_v2 m_s_v2 m_was_v2 m_past_v2 => wpX7_thrown m_thrown_v2 (fun r3 => ((r3 = r1 → ((¬ r1 = 0 → K s_lower_v1 s_higher_v1 s_kind_v1 s_size_v1 s_snow_v1 s_saltEnd_v1 s_complained_v1 s_clearings_v1 s_count_v1 h_free_v1 h_count_v1 R_v1 m_changes_v2 m_thrown_v2 m_s_v2 m_was_v2 m_past_v2 o_v1) ∧
  (r1 = 0 → (((lg_cmp (o_v1 (0 : Int32).toNatClampNeg) r2.toInt64) = 0 → K s_lower_v1 s_higher_v1 s_kind_v1 s_size_v1 s_snow_v1 s_saltEnd_v1 s_complained_v1 s_clearings_v1 s_count_v1 h_free_v1 h_count_v1 R_v1 m_changes_v2 m_thrown_v2 m_s_v2 m_was_v2 m_past_v2 o_v1) ∧
  (¬ (lg_cmp (o_v1 (0 : Int32).toNatClampNeg) r2.toInt64) = 0 → False))))) ∧
  (¬ r3 = r1 → False)))))
def wpL_c1 (v1 : Int32) (t_time : Int32) (t_store : Int32) (t_rate : Int32) (t_force : Int32) (t_cleared : Int32) (t_ploughed : Int32) (t_failed : Int32) (t_complained : Int32) (s_lower : Nat → Int32) (s_higher : Nat → Int32) (s_kind : Nat → Int32) (s_size : Nat → Int32) (s_snow : Nat → Int32) (s_saltEnd : Nat → Int32) (s_complained : Nat → Int32) (s_clearings : Nat → Int32) (s_count : Int32) (q_place : Nat → Int32) (q_target : Nat → Int32) (q_minutesLeft : Nat → Int32) (q_waiting : Nat → Int32) (q_orders : Nat → Int32) (q_count : Int32) (h_free : Int32) (h_count : Int32) (R : Nat → TT) (m_changes : Int32) (m_thrown : Int32) (m_s : Nat → Int32) (m_was : Nat → Int32) (m_past : Nat → Int32) (o : Nat → Int64) (K : (Nat → Int32) → (Nat → Int32) → (Nat → Int32) → (Nat → Int32) → Int32 → Int32 → Int32 → (Nat → TT) → Int32 → Int32 → (Nat → Int32) → (Nat → Int32) → (Nat → Int32) → (Nat → Int64) → Prop) : Prop :=
  wpL_addPlough (xs (i + 1)) t_time t_store t_rate t_force t_cleared t_ploughed t_failed t_complained s_lower s_higher s_kind s_size s_snow s_saltEnd s_complained s_clearings s_count q_place q_target q_minutesLeft q_waiting q_orders q_count h_free h_count R o (fun r1 q_place_v1 q_target_v1 q_minutesLeft_v1 q_waiting_v1 q_count_v1 h_free_v1 h_count_v1 R_v1 o_v1 => wpX7_addPlough (xs (i + 1)) m_changes m_thrown m_s m_was m_past (fun r2 m_changes_v2 m_thrown_v2 m_s_v2 m_was_v2 m_past_v2 => wpX7_thrown m_thrown_v2 (fun r3 => ((r3 = r1 → ((¬ r1 = 0 → K q_place_v1 q_target_v1 q_minutesLeft_v1 q_waiting_v1 q_count_v1 h_free_v1 h_count_v1 R_v1 m_changes_v2 m_thrown_v2 m_s_v2 m_was_v2 m_past_v2 o_v1) ∧
  (r1 = 0 → (((lg_cmp (o_v1 (0 : Int32).toNatClampNeg) r2.toInt64) = 0 → K q_place_v1 q_target_v1 q_minutesLeft_v1 q_waiting_v1 q_count_v1 h_free_v1 h_count_v1 R_v1 m_changes_v2 m_thrown_v2 m_s_v2 m_was_v2 m_past_v2 o_v1) ∧
  (¬ (lg_cmp (o_v1 (0 : Int32).toNatClampNeg) r2.toInt64) = 0 → False))))) ∧
  (¬ r3 = r1 → False)))))
def wpL_c2 (v1 : Int32) (v2 : Int32) (t_time : Int32) (t_store : Int32) (t_rate : Int32) (t_force : Int32) (t_cleared : Int32) (t_ploughed : Int32) (t_failed : Int32) (t_complained : Int32) (s_lower : Nat → Int32) (s_higher : Nat → Int32) (s_kind : Nat → Int32) (s_size : Nat → Int32) (s_snow : Nat → Int32) (s_saltEnd : Nat → Int32) (s_complained : Nat → Int32) (s_clearings : Nat → Int32) (s_count : Int32) (q_place : Nat → Int32) (q_target : Nat → Int32) (q_minutesLeft : Nat → Int32) (q_waiting : Nat → Int32) (q_orders : Nat → Int32) (q_count : Int32) (h_free : Int32) (h_count : Int32) (R : Nat → TT) (m_changes : Int32) (m_thrown : Int32) (m_s : Nat → Int32) (m_was : Nat → Int32) (m_past : Nat → Int32) (o : Nat → Int64) (K : (Nat → Int32) → (Nat → Int32) → Int32 → Int32 → (Nat → TT) → Int32 → Int32 → (Nat → Int32) → (Nat → Int32) → (Nat → Int32) → (Nat → Int64) → Prop) : Prop :=
  wpL_order (xs (i + 1)) (xs (i + 2)) t_time t_store t_rate t_force t_cleared t_ploughed t_failed t_complained s_lower s_higher s_kind s_size s_snow s_saltEnd s_complained s_clearings s_count q_place q_target q_minutesLeft q_waiting q_orders q_count h_free h_count R o (fun r1 q_waiting_v1 q_orders_v1 h_free_v1 h_count_v1 R_v1 o_v1 => wpX7_order (xs (i + 1)) (xs (i + 2)) m_changes m_thrown m_s m_was m_past (fun r2 m_changes_v2 m_thrown_v2 m_s_v2 m_was_v2 m_past_v2 => wpX7_thrown m_thrown_v2 (fun r3 => ((r3 = r1 → ((¬ r1 = 0 → K q_waiting_v1 q_orders_v1 h_free_v1 h_count_v1 R_v1 m_changes_v2 m_thrown_v2 m_s_v2 m_was_v2 m_past_v2 o_v1) ∧
  (r1 = 0 → (((lg_cmp (o_v1 (0 : Int32).toNatClampNeg) r2.toInt64) = 0 → K q_waiting_v1 q_orders_v1 h_free_v1 h_count_v1 R_v1 m_changes_v2 m_thrown_v2 m_s_v2 m_was_v2 m_past_v2 o_v1) ∧
  (¬ (lg_cmp (o_v1 (0 : Int32).toNatClampNeg) r2.toInt64) = 0 → False))))) ∧
  (¬ r3 = r1 → False)))))
def wpL_c3 (v1 : Int32) (t_time : Int32) (t_store : Int32) (t_rate : Int32) (t_force : Int32) (t_cleared : Int32) (t_ploughed : Int32) (t_failed : Int32) (t_complained : Int32) (s_lower : Nat → Int32) (s_higher : Nat → Int32) (s_kind : Nat → Int32) (s_size : Nat → Int32) (s_snow : Nat → Int32) (s_saltEnd : Nat → Int32) (s_complained : Nat → Int32) (s_clearings : Nat → Int32) (s_count : Int32) (q_place : Nat → Int32) (q_target : Nat → Int32) (q_minutesLeft : Nat → Int32) (q_waiting : Nat → Int32) (q_orders : Nat → Int32) (q_count : Int32) (h_free : Int32) (h_count : Int32) (R : Nat → TT) (m_changes : Int32) (m_thrown : Int32) (m_s : Nat → Int32) (m_was : Nat → Int32) (m_past : Nat → Int32) (o : Nat → Int64) (K : (Nat → Int32) → Int32 → Int32 → (Nat → TT) → Int32 → Int32 → (Nat → Int32) → (Nat → Int32) → (Nat → Int32) → (Nat → Int64) → Prop) : Prop :=
  wpL_cancelOrder (xs (i + 1)) t_time t_store t_rate t_force t_cleared t_ploughed t_failed t_complained s_lower s_higher s_kind s_size s_snow s_saltEnd s_complained s_clearings s_count q_place q_target q_minutesLeft q_waiting q_orders q_count h_free h_count R o (fun r1 q_waiting_v1 h_free_v1 h_count_v1 R_v1 o_v1 => wpX7_cancelOrder (xs (i + 1)) m_changes m_thrown m_s m_was m_past (fun r2 m_changes_v2 m_thrown_v2 m_s_v2 m_was_v2 m_past_v2 => wpX7_thrown m_thrown_v2 (fun r3 => ((r3 = r1 → ((¬ r1 = 0 → K q_waiting_v1 h_free_v1 h_count_v1 R_v1 m_changes_v2 m_thrown_v2 m_s_v2 m_was_v2 m_past_v2 o_v1) ∧
  (r1 = 0 → (((lg_cmp (o_v1 (0 : Int32).toNatClampNeg) r2.toInt64) = 0 → K q_waiting_v1 h_free_v1 h_count_v1 R_v1 m_changes_v2 m_thrown_v2 m_s_v2 m_was_v2 m_past_v2 o_v1) ∧
  (¬ (lg_cmp (o_v1 (0 : Int32).toNatClampNeg) r2.toInt64) = 0 → False))))) ∧
  (¬ r3 = r1 → False)))))
def wpL_c4 (v1 : Int32) (t_time : Int32) (t_store : Int32) (t_rate : Int32) (t_force : Int32) (t_cleared : Int32) (t_ploughed : Int32) (t_failed : Int32) (t_complained : Int32) (s_lower : Nat → Int32) (s_higher : Nat → Int32) (s_kind : Nat → Int32) (s_size : Nat → Int32) (s_snow : Nat → Int32) (s_saltEnd : Nat → Int32) (s_complained : Nat → Int32) (s_clearings : Nat → Int32) (s_count : Int32) (q_place : Nat → Int32) (q_target : Nat → Int32) (q_minutesLeft : Nat → Int32) (q_waiting : Nat → Int32) (q_orders : Nat → Int32) (q_count : Int32) (h_free : Int32) (h_count : Int32) (R : Nat → TT) (m_changes : Int32) (m_thrown : Int32) (m_s : Nat → Int32) (m_was : Nat → Int32) (m_past : Nat → Int32) (o : Nat → Int64) (K : Int32 → (Nat → Int32) → Int32 → Int32 → (Nat → TT) → Int32 → Int32 → (Nat → Int32) → (Nat → Int32) → (Nat → Int32) → (Nat → Int64) → Prop) : Prop :=
  wpL_salt (xs (i + 1)) t_time t_store t_rate t_force t_cleared t_ploughed t_failed t_complained s_lower s_higher s_kind s_size s_snow s_saltEnd s_complained s_clearings s_count q_place q_target q_minutesLeft q_waiting q_orders q_count h_free h_count R o (fun r1 t_store_v1 s_saltEnd_v1 h_free_v1 h_count_v1 R_v1 o_v1 => wpX7_salt (xs (i + 1)) m_changes m_thrown m_s m_was m_past (fun r2 m_changes_v2 m_thrown_v2 m_s_v2 m_was_v2 m_past_v2 => wpX7_thrown m_thrown_v2 (fun r3 => ((r3 = r1 → ((¬ r1 = 0 → K t_store_v1 s_saltEnd_v1 h_free_v1 h_count_v1 R_v1 m_changes_v2 m_thrown_v2 m_s_v2 m_was_v2 m_past_v2 o_v1) ∧
  (r1 = 0 → (((lg_cmp (o_v1 (0 : Int32).toNatClampNeg) r2.toInt64) = 0 → K t_store_v1 s_saltEnd_v1 h_free_v1 h_count_v1 R_v1 m_changes_v2 m_thrown_v2 m_s_v2 m_was_v2 m_past_v2 o_v1) ∧
  (¬ (lg_cmp (o_v1 (0 : Int32).toNatClampNeg) r2.toInt64) = 0 → False))))) ∧
  (¬ r3 = r1 → False)))))
def wpL_c5 (v1 : Int32) (t_time : Int32) (t_store : Int32) (t_rate : Int32) (t_force : Int32) (t_cleared : Int32) (t_ploughed : Int32) (t_failed : Int32) (t_complained : Int32) (s_lower : Nat → Int32) (s_higher : Nat → Int32) (s_kind : Nat → Int32) (s_size : Nat → Int32) (s_snow : Nat → Int32) (s_saltEnd : Nat → Int32) (s_complained : Nat → Int32) (s_clearings : Nat → Int32) (s_count : Int32) (q_place : Nat → Int32) (q_target : Nat → Int32) (q_minutesLeft : Nat → Int32) (q_waiting : Nat → Int32) (q_orders : Nat → Int32) (q_count : Int32) (h_free : Int32) (h_count : Int32) (R : Nat → TT) (m_changes : Int32) (m_thrown : Int32) (m_s : Nat → Int32) (m_was : Nat → Int32) (m_past : Nat → Int32) (o : Nat → Int64) (K : Int32 → Int32 → Int32 → (Nat → TT) → Int32 → Int32 → (Nat → Int32) → (Nat → Int32) → (Nat → Int32) → (Nat → Int64) → Prop) : Prop :=
  wpL_loadSalt (xs (i + 1)) t_time t_store t_rate t_force t_cleared t_ploughed t_failed t_complained s_lower s_higher s_kind s_size s_snow s_saltEnd s_complained s_clearings s_count q_place q_target q_minutesLeft q_waiting q_orders q_count h_free h_count R o (fun r1 t_store_v1 h_free_v1 h_count_v1 R_v1 o_v1 => wpX7_loadSalt (xs (i + 1)) m_changes m_thrown m_s m_was m_past (fun r2 m_changes_v2 m_thrown_v2 m_s_v2 m_was_v2 m_past_v2 => wpX7_thrown m_thrown_v2 (fun r3 => ((r3 = r1 → ((¬ r1 = 0 → K t_store_v1 h_free_v1 h_count_v1 R_v1 m_changes_v2 m_thrown_v2 m_s_v2 m_was_v2 m_past_v2 o_v1) ∧
  (r1 = 0 → (((lg_cmp (o_v1 (0 : Int32).toNatClampNeg) r2.toInt64) = 0 → K t_store_v1 h_free_v1 h_count_v1 R_v1 m_changes_v2 m_thrown_v2 m_s_v2 m_was_v2 m_past_v2 o_v1) ∧
  (¬ (lg_cmp (o_v1 (0 : Int32).toNatClampNeg) r2.toInt64) = 0 → False))))) ∧
  (¬ r3 = r1 → False)))))
def wpL_c6 (v1 : Int32) (t_time : Int32) (t_store : Int32) (t_rate : Int32) (t_force : Int32) (t_cleared : Int32) (t_ploughed : Int32) (t_failed : Int32) (t_complained : Int32) (s_lower : Nat → Int32) (s_higher : Nat → Int32) (s_kind : Nat → Int32) (s_size : Nat → Int32) (s_snow : Nat → Int32) (s_saltEnd : Nat → Int32) (s_complained : Nat → Int32) (s_clearings : Nat → Int32) (s_count : Int32) (q_place : Nat → Int32) (q_target : Nat → Int32) (q_minutesLeft : Nat → Int32) (q_waiting : Nat → Int32) (q_orders : Nat → Int32) (q_count : Int32) (h_free : Int32) (h_count : Int32) (R : Nat → TT) (m_changes : Int32) (m_thrown : Int32) (m_s : Nat → Int32) (m_was : Nat → Int32) (m_past : Nat → Int32) (o : Nat → Int64) (K : Int32 → Int32 → Int32 → (Nat → TT) → Int32 → Int32 → (Nat → Int32) → (Nat → Int32) → (Nat → Int32) → (Nat → Int64) → Prop) : Prop :=
  wpL_setSnowfall (xs (i + 1)) t_time t_store t_rate t_force t_cleared t_ploughed t_failed t_complained s_lower s_higher s_kind s_size s_snow s_saltEnd s_complained s_clearings s_count q_place q_target q_minutesLeft q_waiting q_orders q_count h_free h_count R o (fun r1 t_rate_v1 h_free_v1 h_count_v1 R_v1 o_v1 => wpX7_setSnowfall (xs (i + 1)) m_changes m_thrown m_s m_was m_past (fun r2 m_changes_v2 m_thrown_v2 m_s_v2 m_was_v2 m_past_v2 => wpX7_thrown m_thrown_v2 (fun r3 => ((r3 = r1 → ((¬ r1 = 0 → K t_rate_v1 h_free_v1 h_count_v1 R_v1 m_changes_v2 m_thrown_v2 m_s_v2 m_was_v2 m_past_v2 o_v1) ∧
  (r1 = 0 → (((lg_cmp (o_v1 (0 : Int32).toNatClampNeg) r2.toInt64) = 0 → K t_rate_v1 h_free_v1 h_count_v1 R_v1 m_changes_v2 m_thrown_v2 m_s_v2 m_was_v2 m_past_v2 o_v1) ∧
  (¬ (lg_cmp (o_v1 (0 : Int32).toNatClampNeg) r2.toInt64) = 0 → False))))) ∧
  (¬ r3 = r1 → False)))))
def wpL_c7 (v1 : Int32) (t_time : Int32) (t_store : Int32) (t_rate : Int32) (t_force : Int32) (t_cleared : Int32) (t_ploughed : Int32) (t_failed : Int32) (t_complained : Int32) (s_lower : Nat → Int32) (s_higher : Nat → Int32) (s_kind : Nat → Int32) (s_size : Nat → Int32) (s_snow : Nat → Int32) (s_saltEnd : Nat → Int32) (s_complained : Nat → Int32) (s_clearings : Nat → Int32) (s_count : Int32) (q_place : Nat → Int32) (q_target : Nat → Int32) (q_minutesLeft : Nat → Int32) (q_waiting : Nat → Int32) (q_orders : Nat → Int32) (q_count : Int32) (h_free : Int32) (h_count : Int32) (R : Nat → TT) (m_changes : Int32) (m_thrown : Int32) (m_s : Nat → Int32) (m_was : Nat → Int32) (m_past : Nat → Int32) (o : Nat → Int64) (K : Int32 → Int32 → Int32 → (Nat → TT) → Int32 → Int32 → (Nat → Int32) → (Nat → Int32) → (Nat → Int32) → (Nat → Int64) → Prop) : Prop :=
  wpL_setWind (xs (i + 1)) t_time t_store t_rate t_force t_cleared t_ploughed t_failed t_complained s_lower s_higher s_kind s_size s_snow s_saltEnd s_complained s_clearings s_count q_place q_target q_minutesLeft q_waiting q_orders q_count h_free h_count R o (fun r1 t_force_v1 h_free_v1 h_count_v1 R_v1 o_v1 => wpX7_setWind (xs (i + 1)) m_changes m_thrown m_s m_was m_past (fun r2 m_changes_v2 m_thrown_v2 m_s_v2 m_was_v2 m_past_v2 => wpX7_thrown m_thrown_v2 (fun r3 => ((r3 = r1 → ((¬ r1 = 0 → K t_force_v1 h_free_v1 h_count_v1 R_v1 m_changes_v2 m_thrown_v2 m_s_v2 m_was_v2 m_past_v2 o_v1) ∧
  (r1 = 0 → (((lg_cmp (o_v1 (0 : Int32).toNatClampNeg) r2.toInt64) = 0 → K t_force_v1 h_free_v1 h_count_v1 R_v1 m_changes_v2 m_thrown_v2 m_s_v2 m_was_v2 m_past_v2 o_v1) ∧
  (¬ (lg_cmp (o_v1 (0 : Int32).toNatClampNeg) r2.toInt64) = 0 → False))))) ∧
  (¬ r3 = r1 → False)))))
def wpL_c8 (v1 : Int32) (w_reach : Nat → Int32) (w_settled : Nat → Int32) (t_time : Int32) (t_store : Int32) (t_rate : Int32) (t_force : Int32) (t_cleared : Int32) (t_ploughed : Int32) (t_failed : Int32) (t_complained : Int32) (s_lower : Nat → Int32) (s_higher : Nat → Int32) (s_kind : Nat → Int32) (s_size : Nat → Int32) (s_snow : Nat → Int32) (s_saltEnd : Nat → Int32) (s_complained : Nat → Int32) (s_clearings : Nat → Int32) (s_count : Int32) (q_place : Nat → Int32) (q_target : Nat → Int32) (q_minutesLeft : Nat → Int32) (q_waiting : Nat → Int32) (q_orders : Nat → Int32) (q_count : Int32) (h_free : Int32) (h_count : Int32) (R : Nat → TT) (m_changes : Int32) (m_thrown : Int32) (m_answer : Int32) (m_s : Nat → Int32) (m_was : Nat → Int32) (m_past : Nat → Int32) (m_far : Nat → Int32) (m_drift : Nat → Int32) (o : Nat → Int64) (K : (Nat → Int32) → (Nat → Int32) → Int32 → Int32 → Int32 → Int32 → Int32 → (Nat → Int32) → (Nat → Int32) → (Nat → Int32) → (Nat → Int32) → (Nat → Int32) → (Nat → Int32) → (Nat → Int32) → (Nat → Int32) → Int32 → Int32 → (Nat → TT) → Int32 → Int32 → Int32 → (Nat → Int32) → (Nat → Int32) → (Nat → Int32) → (Nat → Int32) → (Nat → Int32) → (Nat → Int64) → Prop) : Prop :=
  wpL_advance (xs (i + 1)) w_reach w_settled t_time t_store t_rate t_force t_cleared t_ploughed t_failed t_complained s_lower s_higher s_kind s_size s_snow s_saltEnd s_complained s_clearings s_count q_place q_target q_minutesLeft q_waiting q_orders q_count h_free h_count R o (fun r1 w_reach_v1 w_settled_v1 t_time_v1 t_cleared_v1 t_ploughed_v1 t_failed_v1 t_complained_v1 s_snow_v1 s_complained_v1 s_clearings_v1 q_place_v1 q_target_v1 q_minutesLeft_v1 q_waiting_v1 q_orders_v1 h_free_v1 h_count_v1 R_v1 o_v1 => wpX7_advance (xs (i + 1)) m_changes m_thrown m_answer m_s m_was m_past m_far m_drift (fun r2 m_changes_v2 m_thrown_v2 m_answer_v2 m_s_v2 m_was_v2 m_past_v2 m_far_v2 m_drift_v2 => wpX7_thrown m_thrown_v2 (fun r3 => ((r3 = r1 → ((¬ r1 = 0 → K w_reach_v1 w_settled_v1 t_time_v1 t_cleared_v1 t_ploughed_v1 t_failed_v1 t_complained_v1 s_snow_v1 s_complained_v1 s_clearings_v1 q_place_v1 q_target_v1 q_minutesLeft_v1 q_waiting_v1 q_orders_v1 h_free_v1 h_count_v1 R_v1 m_changes_v2 m_thrown_v2 m_answer_v2 m_s_v2 m_was_v2 m_past_v2 m_far_v2 m_drift_v2 o_v1) ∧
  (r1 = 0 → (((lg_cmp (o_v1 (0 : Int32).toNatClampNeg) r2.toInt64) = 0 → K w_reach_v1 w_settled_v1 t_time_v1 t_cleared_v1 t_ploughed_v1 t_failed_v1 t_complained_v1 s_snow_v1 s_complained_v1 s_clearings_v1 q_place_v1 q_target_v1 q_minutesLeft_v1 q_waiting_v1 q_orders_v1 h_free_v1 h_count_v1 R_v1 m_changes_v2 m_thrown_v2 m_answer_v2 m_s_v2 m_was_v2 m_past_v2 m_far_v2 m_drift_v2 o_v1) ∧
  (¬ (lg_cmp (o_v1 (0 : Int32).toNatClampNeg) r2.toInt64) = 0 → False))))) ∧
  (¬ r3 = r1 → False)))))
def wpL_c9 (s_count : Int32) (m_thrown : Int32) (m_s : Nat → Int32) (K : Int32 → Prop) : Prop :=
  wpX6_streetCount s_count (fun r1 => wpX7_streetCount m_thrown m_s (fun r2 m_thrown_v2 => ((r1 = r2 → K m_thrown_v2) ∧
  (¬ r1 = r2 → False))))
def wpL_c10 (v1 : Int32) (s_lower : Nat → Int32) (s_count : Int32) (m_thrown : Int32) (m_s : Nat → Int32) (o : Nat → Int64) (K : Int32 → (Nat → Int64) → Prop) : Prop :=
  wpL_lowerEnd (xs (i + 1)) s_lower s_count o (fun r1 o_v1 => wpX7_lowerEnd (xs (i + 1)) m_thrown m_s (fun r2 m_thrown_v2 => wpX7_thrown m_thrown_v2 (fun r3 => ((r3 = r1 → ((¬ r1 = 0 → K m_thrown_v2 o_v1) ∧
  (r1 = 0 → (((lg_cmp (o_v1 (0 : Int32).toNatClampNeg) r2.toInt64) = 0 → K m_thrown_v2 o_v1) ∧
  (¬ (lg_cmp (o_v1 (0 : Int32).toNatClampNeg) r2.toInt64) = 0 → False))))) ∧
  (¬ r3 = r1 → False)))))
def wpL_c11 (v1 : Int32) (s_higher : Nat → Int32) (s_count : Int32) (m_thrown : Int32) (m_s : Nat → Int32) (o : Nat → Int64) (K : Int32 → (Nat → Int64) → Prop) : Prop :=
  wpL_higherEnd (xs (i + 1)) s_higher s_count o (fun r1 o_v1 => wpX7_higherEnd (xs (i + 1)) m_thrown m_s (fun r2 m_thrown_v2 => wpX7_thrown m_thrown_v2 (fun r3 => ((r3 = r1 → ((¬ r1 = 0 → K m_thrown_v2 o_v1) ∧
  (r1 = 0 → (((lg_cmp (o_v1 (0 : Int32).toNatClampNeg) r2.toInt64) = 0 → K m_thrown_v2 o_v1) ∧
  (¬ (lg_cmp (o_v1 (0 : Int32).toNatClampNeg) r2.toInt64) = 0 → False))))) ∧
  (¬ r3 = r1 → False)))))
def wpL_c12 (v1 : Int32) (s_kind : Nat → Int32) (s_count : Int32) (m_thrown : Int32) (m_s : Nat → Int32) (o : Nat → Int64) (K : Int32 → (Nat → Int64) → Prop) : Prop :=
  wpL_streetClass (xs (i + 1)) s_kind s_count o (fun r1 o_v1 => wpX7_streetClass (xs (i + 1)) m_thrown m_s (fun r2 m_thrown_v2 => wpX7_thrown m_thrown_v2 (fun r3 => ((r3 = r1 → ((¬ r1 = 0 → K m_thrown_v2 o_v1) ∧
  (r1 = 0 → (((lg_cmp (o_v1 (0 : Int32).toNatClampNeg) r2.toInt64) = 0 → K m_thrown_v2 o_v1) ∧
  (¬ (lg_cmp (o_v1 (0 : Int32).toNatClampNeg) r2.toInt64) = 0 → False))))) ∧
  (¬ r3 = r1 → False)))))
def wpL_c13 (v1 : Int32) (s_size : Nat → Int32) (s_count : Int32) (m_thrown : Int32) (m_s : Nat → Int32) (o : Nat → Int64) (K : Int32 → (Nat → Int64) → Prop) : Prop :=
  wpL_length (xs (i + 1)) s_size s_count o (fun r1 o_v1 => wpX7_length (xs (i + 1)) m_thrown m_s (fun r2 m_thrown_v2 => wpX7_thrown m_thrown_v2 (fun r3 => ((r3 = r1 → ((¬ r1 = 0 → K m_thrown_v2 o_v1) ∧
  (r1 = 0 → (((lg_cmp (o_v1 (0 : Int32).toNatClampNeg) r2.toInt64) = 0 → K m_thrown_v2 o_v1) ∧
  (¬ (lg_cmp (o_v1 (0 : Int32).toNatClampNeg) r2.toInt64) = 0 → False))))) ∧
  (¬ r3 = r1 → False)))))
def wpL_c14 (v1 : Int32) (s_snow : Nat → Int32) (s_count : Int32) (m_thrown : Int32) (m_s : Nat → Int32) (o : Nat → Int64) (K : Int32 → (Nat → Int64) → Prop) : Prop :=
  wpL_depth (xs (i + 1)) s_snow s_count o (fun r1 o_v1 => wpX7_depth (xs (i + 1)) m_thrown m_s (fun r2 m_thrown_v2 => wpX7_thrown m_thrown_v2 (fun r3 => ((r3 = r1 → ((¬ r1 = 0 → K m_thrown_v2 o_v1) ∧
  (r1 = 0 → (((lg_cmp (o_v1 (0 : Int32).toNatClampNeg) r2.toInt64) = 0 → K m_thrown_v2 o_v1) ∧
  (¬ (lg_cmp (o_v1 (0 : Int32).toNatClampNeg) r2.toInt64) = 0 → False))))) ∧
  (¬ r3 = r1 → False)))))
def wpL_c15 (v1 : Int32) (s_kind : Nat → Int32) (s_snow : Nat → Int32) (s_count : Int32) (m_thrown : Int32) (m_s : Nat → Int32) (o : Nat → Int64) (K : Int32 → (Nat → Int64) → Prop) : Prop :=
  wpL_isOverdue (xs (i + 1)) s_kind s_snow s_count o (fun r1 o_v1 => wpX7_isOverdue (xs (i + 1)) m_thrown m_s (fun r2 m_thrown_v2 => wpX7_thrown m_thrown_v2 (fun r3 => ((r3 = r1 → ((¬ r1 = 0 → K m_thrown_v2 o_v1) ∧
  (r1 = 0 → ((r2 = 0 → (((lg_cmp (o_v1 (0 : Int32).toNatClampNeg) (0 : Int64)) = 0 → K m_thrown_v2 o_v1) ∧
  (¬ (lg_cmp (o_v1 (0 : Int32).toNatClampNeg) (0 : Int64)) = 0 → False))) ∧
  (¬ r2 = 0 → (((lg_cmp (o_v1 (0 : Int32).toNatClampNeg) (1 : Int64)) = 0 → K m_thrown_v2 o_v1) ∧
  (¬ (lg_cmp (o_v1 (0 : Int32).toNatClampNeg) (1 : Int64)) = 0 → False))))))) ∧
  (¬ r3 = r1 → False)))))
def wpL_c16 (v1 : Int32) (t_time : Int32) (s_saltEnd : Nat → Int32) (s_count : Int32) (m_thrown : Int32) (m_s : Nat → Int32) (o : Nat → Int64) (K : Int32 → (Nat → Int64) → Prop) : Prop :=
  wpL_isSalted (xs (i + 1)) t_time s_saltEnd s_count o (fun r1 o_v1 => wpX7_isSalted (xs (i + 1)) m_thrown m_s (fun r2 m_thrown_v2 => wpX7_thrown m_thrown_v2 (fun r3 => ((r3 = r1 → ((¬ r1 = 0 → K m_thrown_v2 o_v1) ∧
  (r1 = 0 → ((r2 = 0 → (((lg_cmp (o_v1 (0 : Int32).toNatClampNeg) (0 : Int64)) = 0 → K m_thrown_v2 o_v1) ∧
  (¬ (lg_cmp (o_v1 (0 : Int32).toNatClampNeg) (0 : Int64)) = 0 → False))) ∧
  (¬ r2 = 0 → (((lg_cmp (o_v1 (0 : Int32).toNatClampNeg) (1 : Int64)) = 0 → K m_thrown_v2 o_v1) ∧
  (¬ (lg_cmp (o_v1 (0 : Int32).toNatClampNeg) (1 : Int64)) = 0 → False))))))) ∧
  (¬ r3 = r1 → False)))))
def wpL_c17 (v1 : Int32) (t_time : Int32) (s_saltEnd : Nat → Int32) (s_count : Int32) (m_thrown : Int32) (m_s : Nat → Int32) (o : Nat → Int64) (K : Int32 → (Nat → Int64) → Prop) : Prop :=
  wpL_saltMinutes (xs (i + 1)) t_time s_saltEnd s_count o (fun r1 o_v1 => wpX7_saltMinutes (xs (i + 1)) m_thrown m_s (fun r2 m_thrown_v2 => wpX7_thrown m_thrown_v2 (fun r3 => ((r3 = r1 → ((¬ r1 = 0 → K m_thrown_v2 o_v1) ∧
  (r1 = 0 → (((lg_cmp (o_v1 (0 : Int32).toNatClampNeg) r2.toInt64) = 0 → K m_thrown_v2 o_v1) ∧
  (¬ (lg_cmp (o_v1 (0 : Int32).toNatClampNeg) r2.toInt64) = 0 → False))))) ∧
  (¬ r3 = r1 → False)))))
def wpL_c18 (v1 : Int32) (s_complained : Nat → Int32) (s_count : Int32) (m_thrown : Int32) (m_s : Nat → Int32) (o : Nat → Int64) (K : Int32 → (Nat → Int64) → Prop) : Prop :=
  wpL_complaints (xs (i + 1)) s_complained s_count o (fun r1 o_v1 => wpX7_complaints (xs (i + 1)) m_thrown m_s (fun r2 m_thrown_v2 => wpX7_thrown m_thrown_v2 (fun r3 => ((r3 = r1 → ((¬ r1 = 0 → K m_thrown_v2 o_v1) ∧
  (r1 = 0 → (((lg_cmp (o_v1 (0 : Int32).toNatClampNeg) r2.toInt64) = 0 → K m_thrown_v2 o_v1) ∧
  (¬ (lg_cmp (o_v1 (0 : Int32).toNatClampNeg) r2.toInt64) = 0 → False))))) ∧
  (¬ r3 = r1 → False)))))
def wpL_c19 (v1 : Int32) (v2 : Int32) (w_reach : Nat → Int32) (w_settled : Nat → Int32) (s_lower : Nat → Int32) (s_higher : Nat → Int32) (s_size : Nat → Int32) (s_count : Int32) (m_thrown : Int32) (m_s : Nat → Int32) (m_far : Nat → Int32) (o : Nat → Int64) (K : (Nat → Int32) → (Nat → Int32) → Int32 → (Nat → Int32) → (Nat → Int64) → Prop) : Prop :=
  wpL_distance (xs (i + 1)) (xs (i + 2)) w_reach w_settled s_lower s_higher s_size s_count o (fun r1 w_reach_v1 w_settled_v1 o_v1 => wpX7_distance (xs (i + 1)) (xs (i + 2)) m_thrown m_s m_far (fun r2 m_thrown_v2 m_far_v2 => wpX7_thrown m_thrown_v2 (fun r3 => ((r3 = r1 → ((¬ r1 = 0 → K w_reach_v1 w_settled_v1 m_thrown_v2 m_far_v2 o_v1) ∧
  (r1 = 0 → (((lg_cmp (o_v1 (0 : Int32).toNatClampNeg) r2.toInt64) = 0 → K w_reach_v1 w_settled_v1 m_thrown_v2 m_far_v2 o_v1) ∧
  (¬ (lg_cmp (o_v1 (0 : Int32).toNatClampNeg) r2.toInt64) = 0 → False))))) ∧
  (¬ r3 = r1 → False)))))
def wpL_c20 (v1 : Int32) (v2 : Int32) (w_table : Nat → Int32) (s_lower : Nat → Int32) (s_higher : Nat → Int32) (s_size : Nat → Int32) (s_count : Int32) (m_thrown : Int32) (m_s : Nat → Int32) (m_far : Nat → Int32) (o : Nat → Int64) (K : (Nat → Int32) → Int32 → (Nat → Int32) → (Nat → Int64) → Prop) : Prop :=
  wpL_distanceByJunctions (xs (i + 1)) (xs (i + 2)) w_table s_lower s_higher s_size s_count o (fun r1 w_table_v1 o_v1 => wpX7_distanceByJunctions (xs (i + 1)) (xs (i + 2)) m_thrown m_s m_far (fun r2 m_thrown_v2 m_far_v2 => wpX7_thrown m_thrown_v2 (fun r3 => ((r3 = r1 → ((¬ r1 = 0 → K w_table_v1 m_thrown_v2 m_far_v2 o_v1) ∧
  (r1 = 0 → (((lg_cmp (o_v1 (0 : Int32).toNatClampNeg) r2.toInt64) = 0 → K w_table_v1 m_thrown_v2 m_far_v2 o_v1) ∧
  (¬ (lg_cmp (o_v1 (0 : Int32).toNatClampNeg) r2.toInt64) = 0 → False))))) ∧
  (¬ r3 = r1 → False)))))
def wpL_c21 (v1 : Int32) (s_kind : Nat → Int32) (s_snow : Nat → Int32) (s_count : Int32) (m_thrown : Int32) (m_s : Nat → Int32) (o : Nat → Int64) (K : Int32 → (Nat → Int64) → Prop) : Prop :=
  wpL_streetByUrgency (xs (i + 1)) s_kind s_snow s_count o (fun r1 o_v1 => wpX7_streetByUrgency (xs (i + 1)) m_thrown m_s (fun r2 m_thrown_v2 => wpX7_thrown m_thrown_v2 (fun r3 => ((r3 = r1 → ((¬ r1 = 0 → K m_thrown_v2 o_v1) ∧
  (r1 = 0 → (((lg_cmp (o_v1 (0 : Int32).toNatClampNeg) r2.toInt64) = 0 → K m_thrown_v2 o_v1) ∧
  (¬ (lg_cmp (o_v1 (0 : Int32).toNatClampNeg) r2.toInt64) = 0 → False))))) ∧
  (¬ r3 = r1 → False)))))
def wpL_c22 (q_count : Int32) (m_thrown : Int32) (m_s : Nat → Int32) (K : Int32 → Prop) : Prop :=
  wpX6_ploughCount q_count (fun r1 => wpX7_ploughCount m_thrown m_s (fun r2 m_thrown_v2 => ((r1 = r2 → K m_thrown_v2) ∧
  (¬ r1 = r2 → False))))
def wpL_c23 (v1 : Int32) (q_minutesLeft : Nat → Int32) (q_count : Int32) (m_thrown : Int32) (m_s : Nat → Int32) (o : Nat → Int64) (K : Int32 → (Nat → Int64) → Prop) : Prop :=
  wpL_isBusy (xs (i + 1)) q_minutesLeft q_count o (fun r1 o_v1 => wpX7_isBusy (xs (i + 1)) m_thrown m_s (fun r2 m_thrown_v2 => wpX7_thrown m_thrown_v2 (fun r3 => ((r3 = r1 → ((¬ r1 = 0 → K m_thrown_v2 o_v1) ∧
  (r1 = 0 → ((r2 = 0 → (((lg_cmp (o_v1 (0 : Int32).toNatClampNeg) (0 : Int64)) = 0 → K m_thrown_v2 o_v1) ∧
  (¬ (lg_cmp (o_v1 (0 : Int32).toNatClampNeg) (0 : Int64)) = 0 → False))) ∧
  (¬ r2 = 0 → (((lg_cmp (o_v1 (0 : Int32).toNatClampNeg) (1 : Int64)) = 0 → K m_thrown_v2 o_v1) ∧
  (¬ (lg_cmp (o_v1 (0 : Int32).toNatClampNeg) (1 : Int64)) = 0 → False))))))) ∧
  (¬ r3 = r1 → False)))))
def wpL_c24 (v1 : Int32) (q_place : Nat → Int32) (q_count : Int32) (m_thrown : Int32) (m_s : Nat → Int32) (o : Nat → Int64) (K : Int32 → (Nat → Int64) → Prop) : Prop :=
  wpL_junction (xs (i + 1)) q_place q_count o (fun r1 o_v1 => wpX7_junction (xs (i + 1)) m_thrown m_s (fun r2 m_thrown_v2 => wpX7_thrown m_thrown_v2 (fun r3 => ((r3 = r1 → ((¬ r1 = 0 → K m_thrown_v2 o_v1) ∧
  (r1 = 0 → (((lg_cmp (o_v1 (0 : Int32).toNatClampNeg) r2.toInt64) = 0 → K m_thrown_v2 o_v1) ∧
  (¬ (lg_cmp (o_v1 (0 : Int32).toNatClampNeg) r2.toInt64) = 0 → False))))) ∧
  (¬ r3 = r1 → False)))))
def wpL_c25 (v1 : Int32) (q_target : Nat → Int32) (q_minutesLeft : Nat → Int32) (q_count : Int32) (m_thrown : Int32) (m_s : Nat → Int32) (o : Nat → Int64) (K : Int32 → (Nat → Int64) → Prop) : Prop :=
  wpL_currentStreet (xs (i + 1)) q_target q_minutesLeft q_count o (fun r1 o_v1 => wpX7_currentStreet (xs (i + 1)) m_thrown m_s (fun r2 m_thrown_v2 => wpX7_thrown m_thrown_v2 (fun r3 => ((r3 = r1 → ((¬ r1 = 0 → K m_thrown_v2 o_v1) ∧
  (r1 = 0 → (((lg_cmp (o_v1 (0 : Int32).toNatClampNeg) r2.toInt64) = 0 → K m_thrown_v2 o_v1) ∧
  (¬ (lg_cmp (o_v1 (0 : Int32).toNatClampNeg) r2.toInt64) = 0 → False))))) ∧
  (¬ r3 = r1 → False)))))
def wpL_c26 (v1 : Int32) (q_minutesLeft : Nat → Int32) (q_count : Int32) (m_thrown : Int32) (m_s : Nat → Int32) (o : Nat → Int64) (K : Int32 → (Nat → Int64) → Prop) : Prop :=
  wpL_busyMinutes (xs (i + 1)) q_minutesLeft q_count o (fun r1 o_v1 => wpX7_busyMinutes (xs (i + 1)) m_thrown m_s (fun r2 m_thrown_v2 => wpX7_thrown m_thrown_v2 (fun r3 => ((r3 = r1 → ((¬ r1 = 0 → K m_thrown_v2 o_v1) ∧
  (r1 = 0 → (((lg_cmp (o_v1 (0 : Int32).toNatClampNeg) r2.toInt64) = 0 → K m_thrown_v2 o_v1) ∧
  (¬ (lg_cmp (o_v1 (0 : Int32).toNatClampNeg) r2.toInt64) = 0 → False))))) ∧
  (¬ r3 = r1 → False)))))
def wpL_c27 (v1 : Int32) (q_waiting : Nat → Int32) (q_count : Int32) (m_thrown : Int32) (m_s : Nat → Int32) (o : Nat → Int64) (K : Int32 → (Nat → Int64) → Prop) : Prop :=
  wpL_queueLength (xs (i + 1)) q_waiting q_count o (fun r1 o_v1 => wpX7_queueLength (xs (i + 1)) m_thrown m_s (fun r2 m_thrown_v2 => wpX7_thrown m_thrown_v2 (fun r3 => ((r3 = r1 → ((¬ r1 = 0 → K m_thrown_v2 o_v1) ∧
  (r1 = 0 → (((lg_cmp (o_v1 (0 : Int32).toNatClampNeg) r2.toInt64) = 0 → K m_thrown_v2 o_v1) ∧
  (¬ (lg_cmp (o_v1 (0 : Int32).toNatClampNeg) r2.toInt64) = 0 → False))))) ∧
  (¬ r3 = r1 → False)))))
def wpL_c28 (v1 : Int32) (v2 : Int32) (q_waiting : Nat → Int32) (q_orders : Nat → Int32) (q_count : Int32) (m_thrown : Int32) (m_s : Nat → Int32) (o : Nat → Int64) (K : Int32 → (Nat → Int64) → Prop) : Prop :=
  wpL_queuedStreet (xs (i + 1)) (xs (i + 2)) q_waiting q_orders q_count o (fun r1 o_v1 => wpX7_queuedStreet (xs (i + 1)) (xs (i + 2)) m_thrown m_s (fun r2 m_thrown_v2 => wpX7_thrown m_thrown_v2 (fun r3 => ((r3 = r1 → ((¬ r1 = 0 → K m_thrown_v2 o_v1) ∧
  (r1 = 0 → (((lg_cmp (o_v1 (0 : Int32).toNatClampNeg) r2.toInt64) = 0 → K m_thrown_v2 o_v1) ∧
  (¬ (lg_cmp (o_v1 (0 : Int32).toNatClampNeg) r2.toInt64) = 0 → False))))) ∧
  (¬ r3 = r1 → False)))))
def wpL_c29 (v1 : Int32) (v2 : Int32) (w_reach : Nat → Int32) (w_settled : Nat → Int32) (s_lower : Nat → Int32) (s_higher : Nat → Int32) (s_size : Nat → Int32) (s_count : Int32) (q_place : Nat → Int32) (q_count : Int32) (m_thrown : Int32) (m_s : Nat → Int32) (m_far : Nat → Int32) (o : Nat → Int64) (K : (Nat → Int32) → (Nat → Int32) → Int32 → (Nat → Int32) → (Nat → Int64) → Prop) : Prop :=
  wpL_orderMinutes (xs (i + 1)) (xs (i + 2)) w_reach w_settled s_lower s_higher s_size s_count q_place q_count o (fun r1 w_reach_v1 w_settled_v1 o_v1 => wpX7_orderMinutes (xs (i + 1)) (xs (i + 2)) m_thrown m_s m_far (fun r2 m_thrown_v2 m_far_v2 => wpX7_thrown m_thrown_v2 (fun r3 => ((r3 = r1 → ((¬ r1 = 0 → K w_reach_v1 w_settled_v1 m_thrown_v2 m_far_v2 o_v1) ∧
  (r1 = 0 → (((lg_cmp (o_v1 (0 : Int32).toNatClampNeg) r2.toInt64) = 0 → K w_reach_v1 w_settled_v1 m_thrown_v2 m_far_v2 o_v1) ∧
  (¬ (lg_cmp (o_v1 (0 : Int32).toNatClampNeg) r2.toInt64) = 0 → False))))) ∧
  (¬ r3 = r1 → False)))))
def wpL_c30 (v1 : Int32) (w_reach : Nat → Int32) (w_settled : Nat → Int32) (t_time : Int32) (t_store : Int32) (t_rate : Int32) (t_force : Int32) (t_cleared : Int32) (t_ploughed : Int32) (t_failed : Int32) (t_complained : Int32) (s_lower : Nat → Int32) (s_higher : Nat → Int32) (s_kind : Nat → Int32) (s_size : Nat → Int32) (s_snow : Nat → Int32) (s_saltEnd : Nat → Int32) (s_complained : Nat → Int32) (s_clearings : Nat → Int32) (s_count : Int32) (q_place : Nat → Int32) (q_target : Nat → Int32) (q_minutesLeft : Nat → Int32) (q_waiting : Nat → Int32) (q_orders : Nat → Int32) (q_count : Int32) (t_timef : Int32) (t_storef : Int32) (t_ratef : Int32) (t_forcef : Int32) (t_clearedf : Int32) (t_ploughedf : Int32) (t_failedf : Int32) (t_complainedf : Int32) (s_lowerf : Nat → Int32) (s_higherf : Nat → Int32) (s_kindf : Nat → Int32) (s_sizef : Nat → Int32) (s_snowf : Nat → Int32) (s_saltEndf : Nat → Int32) (s_complainedf : Nat → Int32) (s_clearingsf : Nat → Int32) (s_countf : Int32) (q_placef : Nat → Int32) (q_targetf : Nat → Int32) (q_minutesLeftf : Nat → Int32) (q_waitingf : Nat → Int32) (q_ordersf : Nat → Int32) (q_countf : Int32) (m_thrown : Int32) (m_s : Nat → Int32) (m_tried : Nat → Int32) (m_far : Nat → Int32) (m_drift : Nat → Int32) (o : Nat → Int64) (K : (Nat → Int32) → (Nat → Int32) → Int32 → Int32 → Int32 → Int32 → Int32 → Int32 → Int32 → Int32 → (Nat → Int32) → (Nat → Int32) → (Nat → Int32) → (Nat → Int32) → (Nat → Int32) → (Nat → Int32) → (Nat → Int32) → (Nat → Int32) → Int32 → (Nat → Int32) → (Nat → Int32) → (Nat → Int32) → (Nat → Int32) → (Nat → Int32) → Int32 → Int32 → (Nat → Int32) → (Nat → Int32) → (Nat → Int32) → (Nat → Int32) → (Nat → Int64) → Prop) : Prop :=
  wpL_minutesUntilCleared (xs (i + 1)) w_reach w_settled t_time t_store t_rate t_force t_cleared t_ploughed t_failed t_complained s_lower s_higher s_kind s_size s_snow s_saltEnd s_complained s_clearings s_count q_place q_target q_minutesLeft q_waiting q_orders q_count t_timef t_storef t_ratef t_forcef t_clearedf t_ploughedf t_failedf t_complainedf s_lowerf s_higherf s_kindf s_sizef s_snowf s_saltEndf s_complainedf s_clearingsf s_countf q_placef q_targetf q_minutesLeftf q_waitingf q_ordersf q_countf o (fun r1 w_reach_v1 w_settled_v1 t_timef_v1 t_storef_v1 t_ratef_v1 t_forcef_v1 t_clearedf_v1 t_ploughedf_v1 t_failedf_v1 t_complainedf_v1 s_lowerf_v1 s_higherf_v1 s_kindf_v1 s_sizef_v1 s_snowf_v1 s_saltEndf_v1 s_complainedf_v1 s_clearingsf_v1 s_countf_v1 q_placef_v1 q_targetf_v1 q_minutesLeftf_v1 q_waitingf_v1 q_ordersf_v1 q_countf_v1 o_v1 => wpX7_minutesUntilCleared (xs (i + 1)) m_thrown m_s m_tried m_far m_drift (fun r2 m_thrown_v2 m_s_v2 m_tried_v2 m_far_v2 m_drift_v2 => wpX7_thrown m_thrown_v2 (fun r3 => ((r3 = r1 → ((¬ r1 = 0 → K w_reach_v1 w_settled_v1 t_timef_v1 t_storef_v1 t_ratef_v1 t_forcef_v1 t_clearedf_v1 t_ploughedf_v1 t_failedf_v1 t_complainedf_v1 s_lowerf_v1 s_higherf_v1 s_kindf_v1 s_sizef_v1 s_snowf_v1 s_saltEndf_v1 s_complainedf_v1 s_clearingsf_v1 s_countf_v1 q_placef_v1 q_targetf_v1 q_minutesLeftf_v1 q_waitingf_v1 q_ordersf_v1 q_countf_v1 m_thrown_v2 m_s_v2 m_tried_v2 m_far_v2 m_drift_v2 o_v1) ∧
  (r1 = 0 → (((lg_cmp (o_v1 (0 : Int32).toNatClampNeg) r2.toInt64) = 0 → K w_reach_v1 w_settled_v1 t_timef_v1 t_storef_v1 t_ratef_v1 t_forcef_v1 t_clearedf_v1 t_ploughedf_v1 t_failedf_v1 t_complainedf_v1 s_lowerf_v1 s_higherf_v1 s_kindf_v1 s_sizef_v1 s_snowf_v1 s_saltEndf_v1 s_complainedf_v1 s_clearingsf_v1 s_countf_v1 q_placef_v1 q_targetf_v1 q_minutesLeftf_v1 q_waitingf_v1 q_ordersf_v1 q_countf_v1 m_thrown_v2 m_s_v2 m_tried_v2 m_far_v2 m_drift_v2 o_v1) ∧
  (¬ (lg_cmp (o_v1 (0 : Int32).toNatClampNeg) r2.toInt64) = 0 → False))))) ∧
  (¬ r3 = r1 → False)))))
def wpL_c31 (v1 : Int32) (v2 : Int32) (w_reach : Nat → Int32) (w_settled : Nat → Int32) (t_time : Int32) (t_store : Int32) (t_rate : Int32) (t_force : Int32) (t_cleared : Int32) (t_ploughed : Int32) (t_failed : Int32) (t_complained : Int32) (s_lower : Nat → Int32) (s_higher : Nat → Int32) (s_kind : Nat → Int32) (s_size : Nat → Int32) (s_snow : Nat → Int32) (s_saltEnd : Nat → Int32) (s_complained : Nat → Int32) (s_clearings : Nat → Int32) (s_count : Int32) (q_place : Nat → Int32) (q_target : Nat → Int32) (q_minutesLeft : Nat → Int32) (q_waiting : Nat → Int32) (q_orders : Nat → Int32) (q_count : Int32) (t_timef : Int32) (t_storef : Int32) (t_ratef : Int32) (t_forcef : Int32) (t_clearedf : Int32) (t_ploughedf : Int32) (t_failedf : Int32) (t_complainedf : Int32) (s_lowerf : Nat → Int32) (s_higherf : Nat → Int32) (s_kindf : Nat → Int32) (s_sizef : Nat → Int32) (s_snowf : Nat → Int32) (s_saltEndf : Nat → Int32) (s_complainedf : Nat → Int32) (s_clearingsf : Nat → Int32) (s_countf : Int32) (q_placef : Nat → Int32) (q_targetf : Nat → Int32) (q_minutesLeftf : Nat → Int32) (q_waitingf : Nat → Int32) (q_ordersf : Nat → Int32) (q_countf : Int32) (m_thrown : Int32) (m_answer : Int32) (m_s : Nat → Int32) (m_tried : Nat → Int32) (m_far : Nat → Int32) (m_drift : Nat → Int32) (o : Nat → Int64) (K : (Nat → Int32) → (Nat → Int32) → Int32 → Int32 → Int32 → Int32 → Int32 → Int32 → Int32 → Int32 → (Nat → Int32) → (Nat → Int32) → (Nat → Int32) → (Nat → Int32) → (Nat → Int32) → (Nat → Int32) → (Nat → Int32) → (Nat → Int32) → Int32 → (Nat → Int32) → (Nat → Int32) → (Nat → Int32) → (Nat → Int32) → (Nat → Int32) → Int32 → Int32 → Int32 → (Nat → Int32) → (Nat → Int32) → (Nat → Int32) → (Nat → Int32) → (Nat → Int64) → Prop) : Prop :=
  wpL_depthAfter (xs (i + 1)) (xs (i + 2)) w_reach w_settled t_time t_store t_rate t_force t_cleared t_ploughed t_failed t_complained s_lower s_higher s_kind s_size s_snow s_saltEnd s_complained s_clearings s_count q_place q_target q_minutesLeft q_waiting q_orders q_count t_timef t_storef t_ratef t_forcef t_clearedf t_ploughedf t_failedf t_complainedf s_lowerf s_higherf s_kindf s_sizef s_snowf s_saltEndf s_complainedf s_clearingsf s_countf q_placef q_targetf q_minutesLeftf q_waitingf q_ordersf q_countf o (fun r1 w_reach_v1 w_settled_v1 t_timef_v1 t_storef_v1 t_ratef_v1 t_forcef_v1 t_clearedf_v1 t_ploughedf_v1 t_failedf_v1 t_complainedf_v1 s_lowerf_v1 s_higherf_v1 s_kindf_v1 s_sizef_v1 s_snowf_v1 s_saltEndf_v1 s_complainedf_v1 s_clearingsf_v1 s_countf_v1 q_placef_v1 q_targetf_v1 q_minutesLeftf_v1 q_waitingf_v1 q_ordersf_v1 q_countf_v1 o_v1 => wpX7_depthAfter (xs (i + 1)) (xs (i + 2)) m_thrown m_answer m_s m_tried m_far m_drift (fun r2 m_thrown_v2 m_answer_v2 m_s_v2 m_tried_v2 m_far_v2 m_drift_v2 => wpX7_thrown m_thrown_v2 (fun r3 => ((r3 = r1 → ((¬ r1 = 0 → K w_reach_v1 w_settled_v1 t_timef_v1 t_storef_v1 t_ratef_v1 t_forcef_v1 t_clearedf_v1 t_ploughedf_v1 t_failedf_v1 t_complainedf_v1 s_lowerf_v1 s_higherf_v1 s_kindf_v1 s_sizef_v1 s_snowf_v1 s_saltEndf_v1 s_complainedf_v1 s_clearingsf_v1 s_countf_v1 q_placef_v1 q_targetf_v1 q_minutesLeftf_v1 q_waitingf_v1 q_ordersf_v1 q_countf_v1 m_thrown_v2 m_answer_v2 m_s_v2 m_tried_v2 m_far_v2 m_drift_v2 o_v1) ∧
  (r1 = 0 → (((lg_cmp (o_v1 (0 : Int32).toNatClampNeg) r2.toInt64) = 0 → K w_reach_v1 w_settled_v1 t_timef_v1 t_storef_v1 t_ratef_v1 t_forcef_v1 t_clearedf_v1 t_ploughedf_v1 t_failedf_v1 t_complainedf_v1 s_lowerf_v1 s_higherf_v1 s_kindf_v1 s_sizef_v1 s_snowf_v1 s_saltEndf_v1 s_complainedf_v1 s_clearingsf_v1 s_countf_v1 q_placef_v1 q_targetf_v1 q_minutesLeftf_v1 q_waitingf_v1 q_ordersf_v1 q_countf_v1 m_thrown_v2 m_answer_v2 m_s_v2 m_tried_v2 m_far_v2 m_drift_v2 o_v1) ∧
  (¬ (lg_cmp (o_v1 (0 : Int32).toNatClampNeg) r2.toInt64) = 0 → False))))) ∧
  (¬ r3 = r1 → False)))))
def wpL_c32 (t_time : Int32) (m_thrown : Int32) (m_s : Nat → Int32) (K : Int32 → Prop) : Prop :=
  wpX6_time t_time (fun r1 => wpX7_time m_thrown m_s (fun r2 m_thrown_v2 => ((r1 = r2 → K m_thrown_v2) ∧
  (¬ r1 = r2 → False))))
def wpL_c33 (t_store : Int32) (m_thrown : Int32) (m_s : Nat → Int32) (K : Int32 → Prop) : Prop :=
  wpX6_saltStore t_store (fun r1 => wpX7_saltStore m_thrown m_s (fun r2 m_thrown_v2 => ((r1 = r2 → K m_thrown_v2) ∧
  (¬ r1 = r2 → False))))
def wpL_c34 (t_rate : Int32) (m_thrown : Int32) (m_s : Nat → Int32) (K : Int32 → Prop) : Prop :=
  wpX6_snowfall t_rate (fun r1 => wpX7_snowfall m_thrown m_s (fun r2 m_thrown_v2 => ((r1 = r2 → K m_thrown_v2) ∧
  (¬ r1 = r2 → False))))
def wpL_c35 (t_force : Int32) (m_thrown : Int32) (m_s : Nat → Int32) (K : Int32 → Prop) : Prop :=
  wpX6_wind t_force (fun r1 => wpX7_wind m_thrown m_s (fun r2 m_thrown_v2 => ((r1 = r2 → K m_thrown_v2) ∧
  (¬ r1 = r2 → False))))
def wpL_c36 (t_cleared : Int32) (m_thrown : Int32) (m_s : Nat → Int32) (K : Int32 → Prop) : Prop :=
  wpX6_clearedTotal t_cleared (fun r1 => wpX7_clearedTotal m_thrown m_s (fun r2 m_thrown_v2 => ((r1 = r2 → K m_thrown_v2) ∧
  (¬ r1 = r2 → False))))
def wpL_c37 (t_ploughed : Int32) (m_thrown : Int32) (m_s : Nat → Int32) (K : Int32 → Prop) : Prop :=
  wpX6_ploughedTotal t_ploughed (fun r1 => wpX7_ploughedTotal m_thrown m_s (fun r2 m_thrown_v2 => ((r1 = r2 → K m_thrown_v2) ∧
  (¬ r1 = r2 → False))))
def wpL_c38 (t_failed : Int32) (m_thrown : Int32) (m_s : Nat → Int32) (K : Int32 → Prop) : Prop :=
  wpX6_failedOrders t_failed (fun r1 => wpX7_failedOrders m_thrown m_s (fun r2 m_thrown_v2 => ((r1 = r2 → K m_thrown_v2) ∧
  (¬ r1 = r2 → False))))
def wpL_c39 (t_complained : Int32) (m_thrown : Int32) (m_s : Nat → Int32) (K : Int32 → Prop) : Prop :=
  wpX6_complaintTotal t_complained (fun r1 => wpX7_complaintTotal m_thrown m_s (fun r2 m_thrown_v2 => ((r1 = r2 → K m_thrown_v2) ∧
  (¬ r1 = r2 → False))))
def wpL_c40 (s_snow : Nat → Int32) (s_count : Int32) (m_thrown : Int32) (m_s : Nat → Int32) (d : Nat → UInt64) (K : Int32 → (Nat → UInt64) → Prop) : Prop :=
  wpL_meanDepth s_snow s_count d (fun r1 d_v1 => wpX7_meanDepth m_thrown m_s (fun r2 m_thrown_v2 => wpX7_thrown m_thrown_v2 (fun r3 => ((r3 = r1 → ((¬ r1 = 0 → K m_thrown_v2 d_v1) ∧
  (r1 = 0 → (((Op.cmpValue (FP.dcmp (d_v1 (0 : Int32).toNatClampNeg) r2) CmpOp.l) = 0 → K m_thrown_v2 d_v1) ∧
  (¬ (Op.cmpValue (FP.dcmp (d_v1 (0 : Int32).toNatClampNeg) r2) CmpOp.l) = 0 → (((Op.cmpValue (FP.dcmp (d_v1 (0 : Int32).toNatClampNeg) (d_v1 (0 : Int32).toNatClampNeg)) CmpOp.l) = 0 → False) ∧
  (¬ (Op.cmpValue (FP.dcmp (d_v1 (0 : Int32).toNatClampNeg) (d_v1 (0 : Int32).toNatClampNeg)) CmpOp.l) = 0 → ((¬ (Op.cmpValue (FP.dcmp r2 r2) CmpOp.l) = 0 → K m_thrown_v2 d_v1) ∧
  ((Op.cmpValue (FP.dcmp r2 r2) CmpOp.l) = 0 → False))))))))) ∧
  (¬ r3 = r1 → False)))))
def wpL_c41 (t_time : Int32) (s_saltEnd : Nat → Int32) (s_count : Int32) (m_thrown : Int32) (m_s : Nat → Int32) (d : Nat → UInt64) (K : Int32 → (Nat → UInt64) → Prop) : Prop :=
  wpL_saltedShare t_time s_saltEnd s_count d (fun r1 d_v1 => wpX7_saltedShare m_thrown m_s (fun r2 m_thrown_v2 => wpX7_thrown m_thrown_v2 (fun r3 => ((r3 = r1 → ((¬ r1 = 0 → K m_thrown_v2 d_v1) ∧
  (r1 = 0 → (vf_n64 (FP.f2d r2) ∧
  (((Op.cmpValue (FP.dcmp (d_v1 (0 : Int32).toNatClampNeg) (FP.f2d r2)) CmpOp.l) = 0 → K m_thrown_v2 d_v1) ∧
  (¬ (Op.cmpValue (FP.dcmp (d_v1 (0 : Int32).toNatClampNeg) (FP.f2d r2)) CmpOp.l) = 0 → (((Op.cmpValue (FP.dcmp (d_v1 (0 : Int32).toNatClampNeg) (d_v1 (0 : Int32).toNatClampNeg)) CmpOp.l) = 0 → False) ∧
  (¬ (Op.cmpValue (FP.dcmp (d_v1 (0 : Int32).toNatClampNeg) (d_v1 (0 : Int32).toNatClampNeg)) CmpOp.l) = 0 → ((¬ (Op.cmpValue (FP.fcmp r2 r2) CmpOp.l) = 0 → K m_thrown_v2 d_v1) ∧
  ((Op.cmpValue (FP.fcmp r2 r2) CmpOp.l) = 0 → False)))))))))) ∧
  (¬ r3 = r1 → False)))))
def wpL_c42 (w_reach : Nat → Int32) (w_settled : Nat → Int32) (w_table : Nat → Int32) (t_complained : Int32) (s_lower : Nat → Int32) (s_higher : Nat → Int32) (s_size : Nat → Int32) (s_snow : Nat → Int32) (s_complained : Nat → Int32) (s_count : Int32) (m_thrown : Int32) (m_s : Nat → Int32) (K : (Nat → Int32) → (Nat → Int32) → (Nat → Int32) → Int32 → Prop) : Prop :=
  wpX6_isConsistent w_reach w_settled w_table t_complained s_lower s_higher s_size s_snow s_complained s_count (fun r1 w_reach_v1 w_settled_v1 w_table_v1 => wpX7_isConsistent m_thrown m_s (fun r2 m_thrown_v2 => ((r1 = r2 → K w_reach_v1 w_settled_v1 w_table_v1 m_thrown_v2) ∧
  (¬ r1 = r2 → False))))
def wpL_c43 (v1 : Int32) (t_time : Int32) (s_lower : Nat → Int32) (s_higher : Nat → Int32) (s_kind : Nat → Int32) (s_snow : Nat → Int32) (s_saltEnd : Nat → Int32) (s_count : Int32) (b_mlo : Int32) (b_counto : Int32) (b_capo : Nat) (b_byteso : Nat → Int32) (m_thrown : Int32) (m_lined : Int32) (m_s : Nat → Int32) (m_line : Nat → Int32) (o : Nat → Int64) (K : Int32 → Int32 → (Nat → Int32) → Int32 → Int32 → (Nat → Int32) → (Nat → Int64) → Prop) : Prop :=
  wpL_renderStreet (xs (i + 1)) t_time s_lower s_higher s_kind s_snow s_saltEnd s_count b_mlo b_counto b_capo b_byteso o (fun r1 b_mlo_v1 b_counto_v1 b_byteso_v1 o_v1 => wpX7_renderStreet (xs (i + 1)) m_thrown m_lined m_s m_line (fun r2 m_thrown_v2 m_lined_v2 m_line_v2 => wpX7_thrown m_thrown_v2 (fun r3 => ((r3 = r1 → ((¬ r1 = 0 → K b_mlo_v1 b_counto_v1 b_byteso_v1 m_thrown_v2 m_lined_v2 m_line_v2 o_v1) ∧
  (r1 = 0 → (((lg_cmp (o_v1 (0 : Int32).toNatClampNeg) r2.toInt64) = 0 → K b_mlo_v1 b_counto_v1 b_byteso_v1 m_thrown_v2 m_lined_v2 m_line_v2 o_v1) ∧
  (¬ (lg_cmp (o_v1 (0 : Int32).toNatClampNeg) r2.toInt64) = 0 → False))))) ∧
  (¬ r3 = r1 → False)))))
def wpL_c44 (v1 : Int32) (q_waiting : Nat → Int32) (q_orders : Nat → Int32) (q_count : Int32) (b_mlo : Int32) (b_counto : Int32) (b_capo : Nat) (b_byteso : Nat → Int32) (m_thrown : Int32) (m_lined : Int32) (m_s : Nat → Int32) (m_line : Nat → Int32) (o : Nat → Int64) (K : Int32 → Int32 → (Nat → Int32) → Int32 → Int32 → (Nat → Int32) → (Nat → Int64) → Prop) : Prop :=
  wpL_renderQueue (xs (i + 1)) q_waiting q_orders q_count b_mlo b_counto b_capo b_byteso o (fun r1 b_mlo_v1 b_counto_v1 b_byteso_v1 o_v1 => wpX7_renderQueue (xs (i + 1)) m_thrown m_lined m_s m_line (fun r2 m_thrown_v2 m_lined_v2 m_line_v2 => wpX7_thrown m_thrown_v2 (fun r3 => ((r3 = r1 → ((¬ r1 = 0 → K b_mlo_v1 b_counto_v1 b_byteso_v1 m_thrown_v2 m_lined_v2 m_line_v2 o_v1) ∧
  (r1 = 0 → (((lg_cmp (o_v1 (0 : Int32).toNatClampNeg) r2.toInt64) = 0 → K b_mlo_v1 b_counto_v1 b_byteso_v1 m_thrown_v2 m_lined_v2 m_line_v2 o_v1) ∧
  (¬ (lg_cmp (o_v1 (0 : Int32).toNatClampNeg) r2.toInt64) = 0 → False))))) ∧
  (¬ r3 = r1 → False)))))
def wpL_c45 (v1 : Int32) (b_counto : Int32) (b_capo : Nat) (b_byteso : Nat → Int32) (m_thrown : Int32) (m_lined : Int32) (m_line : Nat → Int32) (o : Nat → Int64) (K : Int32 → (Nat → Int64) → Prop) : Prop :=
  wpL_outputAt (xs (i + 1)) b_counto b_capo b_byteso o (fun r1 o_v1 => wpX7_outputAt (xs (i + 1)) m_thrown m_lined m_line (fun r2 m_thrown_v2 => wpX7_thrown m_thrown_v2 (fun r3 => ((r3 = r1 → ((¬ r1 = 0 → K m_thrown_v2 o_v1) ∧
  (r1 = 0 → (((lg_cmp (o_v1 (0 : Int32).toNatClampNeg) r2.toInt64) = 0 → K m_thrown_v2 o_v1) ∧
  (¬ (lg_cmp (o_v1 (0 : Int32).toNatClampNeg) r2.toInt64) = 0 → False))))) ∧
  (¬ r3 = r1 → False)))))
def wpL_c46 (v1 : Int32) (b_countt : Int32) (b_att : Nat → Nat) (b_capt : Nat) (b_bytest : Nat → Int32) (m_thrown : Int32) (m_taped : Int32) (m_tape : Nat → Int32) (o : Nat → Int64) (K : Int32 → (Nat → Nat) → Nat → (Nat → Int32) → Int32 → Int32 → (Nat → Int32) → (Nat → Int64) → Prop) : Prop :=
  wpL_type (((xs (i + 1)).toUInt32 % 65536).toInt32) b_countt b_att b_capt b_bytest o (fun r1 b_countt_v1 b_att_v1 b_capt_v1 b_bytest_v1 o_v1 => wpX7_type (((xs (i + 1)).toUInt32 % 65536).toInt32) m_thrown m_taped m_tape (fun r2 m_thrown_v2 m_taped_v2 m_tape_v2 => wpX7_thrown m_thrown_v2 (fun r3 => ((r3 = r1 → ((¬ r1 = 0 → K b_countt_v1 b_att_v1 b_capt_v1 b_bytest_v1 m_thrown_v2 m_taped_v2 m_tape_v2 o_v1) ∧
  (r1 = 0 → (((lg_cmp (o_v1 (0 : Int32).toNatClampNeg) r2.toInt64) = 0 → K b_countt_v1 b_att_v1 b_capt_v1 b_bytest_v1 m_thrown_v2 m_taped_v2 m_tape_v2 o_v1) ∧
  (¬ (lg_cmp (o_v1 (0 : Int32).toNatClampNeg) r2.toInt64) = 0 → False))))) ∧
  (¬ r3 = r1 → False)))))
def wpL_c47 (d_wrongPosition : Int32) (d_refusedCommand : Int32) (w_reach : Nat → Int32) (w_settled : Nat → Int32) (t_time : Int32) (t_store : Int32) (t_rate : Int32) (t_force : Int32) (t_cleared : Int32) (t_ploughed : Int32) (t_failed : Int32) (t_complained : Int32) (s_lower : Nat → Int32) (s_higher : Nat → Int32) (s_kind : Nat → Int32) (s_size : Nat → Int32) (s_snow : Nat → Int32) (s_saltEnd : Nat → Int32) (s_complained : Nat → Int32) (s_clearings : Nat → Int32) (s_count : Int32) (q_place : Nat → Int32) (q_target : Nat → Int32) (q_minutesLeft : Nat → Int32) (q_waiting : Nat → Int32) (q_orders : Nat → Int32) (q_count : Int32) (h_free : Int32) (h_count : Int32) (R : Nat → TT) (c_values : Nat → Int32) (c_at : Int32) (c_verb : Int32) (b_mlt : Int32) (b_countt : Int32) (b_capt : Nat) (b_bytest : Nat → Int32) (m_changes : Int32) (m_thrown : Int32) (m_errorAt : Int32) (m_failedAt : Int32) (m_answer : Int32) (m_taped : Int32) (m_here : Int32) (m_commandMany : Int32) (m_s : Nat → Int32) (m_was : Nat → Int32) (m_past : Nat → Int32) (m_far : Nat → Int32) (m_drift : Nat → Int32) (m_tape : Nat → Int32) (m_commands : Nat → Int32) (o : Nat → Int64) (K : Int32 → Int32 → (Nat → Int32) → (Nat → Int32) → Int32 → Int32 → Int32 → Int32 → Int32 → Int32 → Int32 → Int32 → (Nat → Int32) → (Nat → Int32) → (Nat → Int32) → (Nat → Int32) → (Nat → Int32) → (Nat → Int32) → (Nat → Int32) → (Nat → Int32) → Int32 → (Nat → Int32) → (Nat → Int32) → (Nat → Int32) → (Nat → Int32) → (Nat → Int32) → Int32 → Int32 → Int32 → (Nat → TT) → (Nat → Int32) → Int32 → Int32 → Int32 → Int32 → Int32 → Int32 → Int32 → Int32 → Int32 → Int32 → Int32 → Int32 → (Nat → Int32) → (Nat → Int32) → (Nat → Int32) → (Nat → Int32) → (Nat → Int32) → (Nat → Int32) → (Nat → Int64) → Prop) : Prop :=
  wpL_runScript d_wrongPosition d_refusedCommand w_reach w_settled t_time t_store t_rate t_force t_cleared t_ploughed t_failed t_complained s_lower s_higher s_kind s_size s_snow s_saltEnd s_complained s_clearings s_count q_place q_target q_minutesLeft q_waiting q_orders q_count h_free h_count R c_values c_at c_verb b_mlt b_countt b_capt b_bytest o (fun r1 d_wrongPosition_v1 d_refusedCommand_v1 w_reach_v1 w_settled_v1 t_time_v1 t_store_v1 t_rate_v1 t_force_v1 t_cleared_v1 t_ploughed_v1 t_failed_v1 t_complained_v1 s_lower_v1 s_higher_v1 s_kind_v1 s_size_v1 s_snow_v1 s_saltEnd_v1 s_complained_v1 s_clearings_v1 s_count_v1 q_place_v1 q_target_v1 q_minutesLeft_v1 q_waiting_v1 q_orders_v1 q_count_v1 h_free_v1 h_count_v1 R_v1 c_values_v1 c_at_v1 c_verb_v1 b_mlt_v1 b_countt_v1 o_v1 => wpX7_runScript m_changes m_thrown m_errorAt m_failedAt m_answer m_taped m_here m_commandMany m_s m_was m_past m_far m_drift m_tape m_commands (fun r2 m_changes_v2 m_thrown_v2 m_errorAt_v2 m_failedAt_v2 m_answer_v2 m_taped_v2 m_here_v2 m_commandMany_v2 m_s_v2 m_was_v2 m_past_v2 m_far_v2 m_drift_v2 m_commands_v2 => wpX7_thrown m_thrown_v2 (fun r3 => ((r3 = r1 → ((¬ r1 = 0 → K d_wrongPosition_v1 d_refusedCommand_v1 w_reach_v1 w_settled_v1 t_time_v1 t_store_v1 t_rate_v1 t_force_v1 t_cleared_v1 t_ploughed_v1 t_failed_v1 t_complained_v1 s_lower_v1 s_higher_v1 s_kind_v1 s_size_v1 s_snow_v1 s_saltEnd_v1 s_complained_v1 s_clearings_v1 s_count_v1 q_place_v1 q_target_v1 q_minutesLeft_v1 q_waiting_v1 q_orders_v1 q_count_v1 h_free_v1 h_count_v1 R_v1 c_values_v1 c_at_v1 c_verb_v1 b_mlt_v1 b_countt_v1 m_changes_v2 m_thrown_v2 m_errorAt_v2 m_failedAt_v2 m_answer_v2 m_taped_v2 m_here_v2 m_commandMany_v2 m_s_v2 m_was_v2 m_past_v2 m_far_v2 m_drift_v2 m_commands_v2 o_v1) ∧
  (r1 = 0 → (((lg_cmp (o_v1 (0 : Int32).toNatClampNeg) r2.toInt64) = 0 → K d_wrongPosition_v1 d_refusedCommand_v1 w_reach_v1 w_settled_v1 t_time_v1 t_store_v1 t_rate_v1 t_force_v1 t_cleared_v1 t_ploughed_v1 t_failed_v1 t_complained_v1 s_lower_v1 s_higher_v1 s_kind_v1 s_size_v1 s_snow_v1 s_saltEnd_v1 s_complained_v1 s_clearings_v1 s_count_v1 q_place_v1 q_target_v1 q_minutesLeft_v1 q_waiting_v1 q_orders_v1 q_count_v1 h_free_v1 h_count_v1 R_v1 c_values_v1 c_at_v1 c_verb_v1 b_mlt_v1 b_countt_v1 m_changes_v2 m_thrown_v2 m_errorAt_v2 m_failedAt_v2 m_answer_v2 m_taped_v2 m_here_v2 m_commandMany_v2 m_s_v2 m_was_v2 m_past_v2 m_far_v2 m_drift_v2 m_commands_v2 o_v1) ∧
  (¬ (lg_cmp (o_v1 (0 : Int32).toNatClampNeg) r2.toInt64) = 0 → False))))) ∧
  (¬ r3 = r1 → False)))))
def wpL_c48 (d_wrongPosition : Int32) (m_thrown : Int32) (m_errorAt : Int32) (o : Nat → Int64) (K : Int32 → (Nat → Int64) → Prop) : Prop :=
  wpL_errorPosition d_wrongPosition o (fun r1 o_v1 => wpX7_errorPosition m_thrown m_errorAt (fun r2 m_thrown_v2 => wpX7_thrown m_thrown_v2 (fun r3 => ((r3 = r1 → ((¬ r1 = 0 → K m_thrown_v2 o_v1) ∧
  (r1 = 0 → (((lg_cmp (o_v1 (0 : Int32).toNatClampNeg) r2.toInt64) = 0 → K m_thrown_v2 o_v1) ∧
  (¬ (lg_cmp (o_v1 (0 : Int32).toNatClampNeg) r2.toInt64) = 0 → False))))) ∧
  (¬ r3 = r1 → False)))))
def wpL_c49 (d_refusedCommand : Int32) (m_thrown : Int32) (m_failedAt : Int32) (o : Nat → Int64) (K : Int32 → (Nat → Int64) → Prop) : Prop :=
  wpL_failedCommand d_refusedCommand o (fun r1 o_v1 => wpX7_failedCommand m_thrown m_failedAt (fun r2 m_thrown_v2 => wpX7_thrown m_thrown_v2 (fun r3 => ((r3 = r1 → ((¬ r1 = 0 → K m_thrown_v2 o_v1) ∧
  (r1 = 0 → (((lg_cmp (o_v1 (0 : Int32).toNatClampNeg) r2.toInt64) = 0 → K m_thrown_v2 o_v1) ∧
  (¬ (lg_cmp (o_v1 (0 : Int32).toNatClampNeg) r2.toInt64) = 0 → False))))) ∧
  (¬ r3 = r1 → False)))))
def wpL_c50 (t_time : Int32) (t_store : Int32) (t_rate : Int32) (t_force : Int32) (t_cleared : Int32) (t_ploughed : Int32) (t_failed : Int32) (t_complained : Int32) (s_lower : Nat → Int32) (s_higher : Nat → Int32) (s_kind : Nat → Int32) (s_size : Nat → Int32) (s_snow : Nat → Int32) (s_saltEnd : Nat → Int32) (s_complained : Nat → Int32) (s_clearings : Nat → Int32) (s_count : Int32) (q_place : Nat → Int32) (q_target : Nat → Int32) (q_minutesLeft : Nat → Int32) (q_waiting : Nat → Int32) (q_orders : Nat → Int32) (q_count : Int32) (h_free : Int32) (h_count : Int32) (R : Nat → TT) (m_changes : Int32) (m_thrown : Int32) (m_s : Nat → Int32) (m_past : Nat → Int32) (o : Nat → Int64) (K : Int32 → Int32 → Int32 → Int32 → Int32 → Int32 → Int32 → Int32 → (Nat → Int32) → (Nat → Int32) → (Nat → Int32) → (Nat → Int32) → (Nat → Int32) → (Nat → Int32) → (Nat → Int32) → (Nat → Int32) → Int32 → (Nat → Int32) → (Nat → Int32) → (Nat → Int32) → (Nat → Int32) → (Nat → Int32) → Int32 → Int32 → Int32 → Int32 → Int32 → (Nat → Int32) → (Nat → Int64) → Prop) : Prop :=
  wpL_undo t_time t_store t_rate t_force t_cleared t_ploughed t_failed t_complained s_lower s_higher s_kind s_size s_snow s_saltEnd s_complained s_clearings s_count q_place q_target q_minutesLeft q_waiting q_orders q_count h_free h_count R o (fun r1 t_time_v1 t_store_v1 t_rate_v1 t_force_v1 t_cleared_v1 t_ploughed_v1 t_failed_v1 t_complained_v1 s_lower_v1 s_higher_v1 s_kind_v1 s_size_v1 s_snow_v1 s_saltEnd_v1 s_complained_v1 s_clearings_v1 s_count_v1 q_place_v1 q_target_v1 q_minutesLeft_v1 q_waiting_v1 q_orders_v1 q_count_v1 h_free_v1 h_count_v1 o_v1 => wpX7_undo m_changes m_thrown m_s m_past (fun r2 m_changes_v2 m_thrown_v2 m_s_v2 => wpX7_thrown m_thrown_v2 (fun r3 => ((r3 = r1 → ((¬ r1 = 0 → K t_time_v1 t_store_v1 t_rate_v1 t_force_v1 t_cleared_v1 t_ploughed_v1 t_failed_v1 t_complained_v1 s_lower_v1 s_higher_v1 s_kind_v1 s_size_v1 s_snow_v1 s_saltEnd_v1 s_complained_v1 s_clearings_v1 s_count_v1 q_place_v1 q_target_v1 q_minutesLeft_v1 q_waiting_v1 q_orders_v1 q_count_v1 h_free_v1 h_count_v1 m_changes_v2 m_thrown_v2 m_s_v2 o_v1) ∧
  (r1 = 0 → (((lg_cmp (o_v1 (0 : Int32).toNatClampNeg) r2.toInt64) = 0 → K t_time_v1 t_store_v1 t_rate_v1 t_force_v1 t_cleared_v1 t_ploughed_v1 t_failed_v1 t_complained_v1 s_lower_v1 s_higher_v1 s_kind_v1 s_size_v1 s_snow_v1 s_saltEnd_v1 s_complained_v1 s_clearings_v1 s_count_v1 q_place_v1 q_target_v1 q_minutesLeft_v1 q_waiting_v1 q_orders_v1 q_count_v1 h_free_v1 h_count_v1 m_changes_v2 m_thrown_v2 m_s_v2 o_v1) ∧
  (¬ (lg_cmp (o_v1 (0 : Int32).toNatClampNeg) r2.toInt64) = 0 → False))))) ∧
  (¬ r3 = r1 → False)))))
def wpL_c51 (d_saved : Int32) (t_time : Int32) (t_store : Int32) (t_rate : Int32) (t_force : Int32) (t_cleared : Int32) (t_ploughed : Int32) (t_failed : Int32) (t_complained : Int32) (s_lower : Nat → Int32) (s_higher : Nat → Int32) (s_kind : Nat → Int32) (s_size : Nat → Int32) (s_snow : Nat → Int32) (s_saltEnd : Nat → Int32) (s_complained : Nat → Int32) (s_clearings : Nat → Int32) (s_count : Int32) (q_place : Nat → Int32) (q_target : Nat → Int32) (q_minutesLeft : Nat → Int32) (q_waiting : Nat → Int32) (q_orders : Nat → Int32) (q_count : Int32) (t_timep : Int32) (t_storep : Int32) (t_ratep : Int32) (t_forcep : Int32) (t_clearedp : Int32) (t_ploughedp : Int32) (t_failedp : Int32) (t_complainedp : Int32) (s_lowerp : Nat → Int32) (s_higherp : Nat → Int32) (s_kindp : Nat → Int32) (s_sizep : Nat → Int32) (s_snowp : Nat → Int32) (s_saltEndp : Nat → Int32) (s_complainedp : Nat → Int32) (s_clearingsp : Nat → Int32) (s_countp : Int32) (q_placep : Nat → Int32) (q_targetp : Nat → Int32) (q_minutesLeftp : Nat → Int32) (q_waitingp : Nat → Int32) (q_ordersp : Nat → Int32) (q_countp : Int32) (m_thrown : Int32) (m_isSaved : Int32) (m_s : Nat → Int32) (m_saved : Nat → Int32) (K : Int32 → Int32 → Int32 → Int32 → Int32 → Int32 → Int32 → Int32 → Int32 → (Nat → Int32) → (Nat → Int32) → (Nat → Int32) → (Nat → Int32) → (Nat → Int32) → (Nat → Int32) → (Nat → Int32) → (Nat → Int32) → Int32 → (Nat → Int32) → (Nat → Int32) → (Nat → Int32) → (Nat → Int32) → (Nat → Int32) → Int32 → Int32 → Int32 → (Nat → Int32) → Prop) : Prop :=
  wpX6_save d_saved t_time t_store t_rate t_force t_cleared t_ploughed t_failed t_complained s_lower s_higher s_kind s_size s_snow s_saltEnd s_complained s_clearings s_count q_place q_target q_minutesLeft q_waiting q_orders q_count t_timep t_storep t_ratep t_forcep t_clearedp t_ploughedp t_failedp t_complainedp s_lowerp s_higherp s_kindp s_sizep s_snowp s_saltEndp s_complainedp s_clearingsp s_countp q_placep q_targetp q_minutesLeftp q_waitingp q_ordersp q_countp (fun r1 d_saved_v1 t_timep_v1 t_storep_v1 t_ratep_v1 t_forcep_v1 t_clearedp_v1 t_ploughedp_v1 t_failedp_v1 t_complainedp_v1 s_lowerp_v1 s_higherp_v1 s_kindp_v1 s_sizep_v1 s_snowp_v1 s_saltEndp_v1 s_complainedp_v1 s_clearingsp_v1 s_countp_v1 q_placep_v1 q_targetp_v1 q_minutesLeftp_v1 q_waitingp_v1 q_ordersp_v1 q_countp_v1 => wpX7_save m_thrown m_isSaved m_s m_saved (fun r2 m_thrown_v2 m_isSaved_v2 m_saved_v2 => ((r1 = r2 → K d_saved_v1 t_timep_v1 t_storep_v1 t_ratep_v1 t_forcep_v1 t_clearedp_v1 t_ploughedp_v1 t_failedp_v1 t_complainedp_v1 s_lowerp_v1 s_higherp_v1 s_kindp_v1 s_sizep_v1 s_snowp_v1 s_saltEndp_v1 s_complainedp_v1 s_clearingsp_v1 s_countp_v1 q_placep_v1 q_targetp_v1 q_minutesLeftp_v1 q_waitingp_v1 q_ordersp_v1 q_countp_v1 m_thrown_v2 m_isSaved_v2 m_saved_v2) ∧
  (¬ r1 = r2 → False))))
def wpL_c52 (d_saved : Int32) (t_time : Int32) (t_store : Int32) (t_rate : Int32) (t_force : Int32) (t_cleared : Int32) (t_ploughed : Int32) (t_failed : Int32) (t_complained : Int32) (s_lower : Nat → Int32) (s_higher : Nat → Int32) (s_kind : Nat → Int32) (s_size : Nat → Int32) (s_snow : Nat → Int32) (s_saltEnd : Nat → Int32) (s_complained : Nat → Int32) (s_clearings : Nat → Int32) (s_count : Int32) (q_place : Nat → Int32) (q_target : Nat → Int32) (q_minutesLeft : Nat → Int32) (q_waiting : Nat → Int32) (q_orders : Nat → Int32) (q_count : Int32) (t_timep : Int32) (t_storep : Int32) (t_ratep : Int32) (t_forcep : Int32) (t_clearedp : Int32) (t_ploughedp : Int32) (t_failedp : Int32) (t_complainedp : Int32) (s_lowerp : Nat → Int32) (s_higherp : Nat → Int32) (s_kindp : Nat → Int32) (s_sizep : Nat → Int32) (s_snowp : Nat → Int32) (s_saltEndp : Nat → Int32) (s_complainedp : Nat → Int32) (s_clearingsp : Nat → Int32) (s_countp : Int32) (q_placep : Nat → Int32) (q_targetp : Nat → Int32) (q_minutesLeftp : Nat → Int32) (q_waitingp : Nat → Int32) (q_ordersp : Nat → Int32) (q_countp : Int32) (h_count : Int32) (m_changes : Int32) (m_thrown : Int32) (m_isSaved : Int32) (m_s : Nat → Int32) (m_saved : Nat → Int32) (o : Nat → Int64) (K : Int32 → Int32 → Int32 → Int32 → Int32 → Int32 → Int32 → Int32 → (Nat → Int32) → (Nat → Int32) → (Nat → Int32) → (Nat → Int32) → (Nat → Int32) → (Nat → Int32) → (Nat → Int32) → (Nat → Int32) → Int32 → (Nat → Int32) → (Nat → Int32) → (Nat → Int32) → (Nat → Int32) → (Nat → Int32) → Int32 → Int32 → Int32 → Int32 → (Nat → Int32) → (Nat → Int64) → Prop) : Prop :=
  wpL_restore d_saved t_time t_store t_rate t_force t_cleared t_ploughed t_failed t_complained s_lower s_higher s_kind s_size s_snow s_saltEnd s_complained s_clearings s_count q_place q_target q_minutesLeft q_waiting q_orders q_count t_timep t_storep t_ratep t_forcep t_clearedp t_ploughedp t_failedp t_complainedp s_lowerp s_higherp s_kindp s_sizep s_snowp s_saltEndp s_complainedp s_clearingsp s_countp q_placep q_targetp q_minutesLeftp q_waitingp q_ordersp q_countp h_count o (fun r1 t_time_v1 t_store_v1 t_rate_v1 t_force_v1 t_cleared_v1 t_ploughed_v1 t_failed_v1 t_complained_v1 s_lower_v1 s_higher_v1 s_kind_v1 s_size_v1 s_snow_v1 s_saltEnd_v1 s_complained_v1 s_clearings_v1 s_count_v1 q_place_v1 q_target_v1 q_minutesLeft_v1 q_waiting_v1 q_orders_v1 q_count_v1 h_count_v1 o_v1 => wpX7_restore m_changes m_thrown m_isSaved m_s m_saved (fun r2 m_changes_v2 m_thrown_v2 m_s_v2 => wpX7_thrown m_thrown_v2 (fun r3 => ((r3 = r1 → ((¬ r1 = 0 → K t_time_v1 t_store_v1 t_rate_v1 t_force_v1 t_cleared_v1 t_ploughed_v1 t_failed_v1 t_complained_v1 s_lower_v1 s_higher_v1 s_kind_v1 s_size_v1 s_snow_v1 s_saltEnd_v1 s_complained_v1 s_clearings_v1 s_count_v1 q_place_v1 q_target_v1 q_minutesLeft_v1 q_waiting_v1 q_orders_v1 q_count_v1 h_count_v1 m_changes_v2 m_thrown_v2 m_s_v2 o_v1) ∧
  (r1 = 0 → (((lg_cmp (o_v1 (0 : Int32).toNatClampNeg) r2.toInt64) = 0 → K t_time_v1 t_store_v1 t_rate_v1 t_force_v1 t_cleared_v1 t_ploughed_v1 t_failed_v1 t_complained_v1 s_lower_v1 s_higher_v1 s_kind_v1 s_size_v1 s_snow_v1 s_saltEnd_v1 s_complained_v1 s_clearings_v1 s_count_v1 q_place_v1 q_target_v1 q_minutesLeft_v1 q_waiting_v1 q_orders_v1 q_count_v1 h_count_v1 m_changes_v2 m_thrown_v2 m_s_v2 o_v1) ∧
  (¬ (lg_cmp (o_v1 (0 : Int32).toNatClampNeg) r2.toInt64) = 0 → False))))) ∧
  (¬ r3 = r1 → False)))))
