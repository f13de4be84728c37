/-! the tables' words by their places: by program (wip/whole/gen/words.py) -/
theorem lw_sel {C : String} {y y2 : MethodName} {s : State} {args : Array Value} {n : Nat} (hc2 : y2.cls = y.cls) (hy : y.cls ≠ "java/lang/invoke/MethodHandle" ∧ y.cls ≠ "java/lang/invoke/VarHandle") (hy2 : y2.cls ≠ "java/lang/invoke/MethodHandle" ∧ y2.cls ≠ "java/lang/invoke/VarHandle")
    (hins : (Cond.instantiable C n).before args s = true) (hpriv : (Cond.privateMethod y).before args s = true) (hinst : (Cond.instanceMethod y).before args s = true) (hsel2 : (Cond.selects C y2 y2).before args s = true) (hinst2 : (Cond.instanceMethod y2).before args s = true) :
    (Cond.selects C y y).before args s = true := by
  obtain ⟨c, k, hc, hk, -, hniab, -, -⟩ := Cond.instantiable_spec hins
  obtain ⟨mk, methM, hnamed, hmethM, -, -⟩ := Cond.instanceMethod_spec hinst
  obtain ⟨c2, r2, m2, q1, q2, q3, q4, kP, hkP, hkPi⟩ := Cond.selects_spec hsel2
  obtain ⟨mk2, methM2, hnamed2, hmethM2, -, -⟩ := Cond.instanceMethod_spec hinst2
  have hf2 := State.methodFound?_of_named hnamed2 hy2
  have e3 : mk2 = m2 := Option.some.inj (hnamed2.symm.trans q3)
  rw [← e3] at hkP
  have e1 := findClass_of_methodNamed hnamed2
  have e2 := findClass_of_methodNamed hnamed
  rw [hc2] at e1
  have e : mk.cls = mk2.cls := Option.some.inj (e2.symm.trans e1)
  have hfound : s.methodFound? y.cls y.name y.desc = some mk := State.methodFound?_of_named hnamed hy
  have hsel : selectMethod {} s.vm c mk = .method mk := selectMethod_private hmethM (Cond.privateMethod_at hpriv mk methM hnamed hmethM)
  simp only [Cond.before, Cond.holds, Cond.value, hc, hfound, hnamed, hsel, hk]
  simp
  rw [e, hkP]
  simp [hkPi]
def lw_news : List Cond := [.selects RJ4 ⟨"java/lang/AbstractStringBuilder", "newCapacity", "(I)I"⟩ yJ5_newCapacity_0f7a4, .selects RJ4 ⟨"java/lang/AbstractStringBuilder", "ensureCapacityInternal", "(I)V"⟩ yJ5_ensureCapacityInternal_d00df, .selects RJ4 ⟨"java/lang/AbstractStringBuilder", "inflate", "()V"⟩ yJ5_inflate_da8c8, .selects RJ4 ⟨"java/lang/AbstractStringBuilder", "appendNull", "()Ljava/lang/AbstractStringBuilder;"⟩ yJ5_appendNull_278bc, .selects RJ4 ⟨"java/lang/AbstractStringBuilder", "inflateIfNeededFor", "(Ljava/lang/String;)V"⟩ yJ5_inflateIfNeededFor_a7421, .selects RJ4 ⟨"java/lang/AbstractStringBuilder", "putStringAt", "(ILjava/lang/String;)V"⟩ yJ5_putStringAt_47b60]
def lw_tbl2 : List Cond := lw_news ++ lw_tbl
theorem lw_hts2 {args : Array Value} {s : State} (hts : ∀ w ∈ lw_tbl, w.before args s = true) : ∀ w ∈ lw_tbl2, w.before args s = true := by
  intro w hw
  rcases List.mem_append.mp hw with hw | hw
  · simp only [lw_news, List.mem_cons, List.not_mem_nil, or_false] at hw
    rcases hw with rfl | rfl | rfl | rfl | rfl | rfl
    · exact lw_sel (C := RJ4) (y := yJ5_newCapacity_0f7a4) (y2 := ⟨"java/lang/AbstractStringBuilder", "isLatin1", "()Z"⟩) (n := 4) rfl ⟨by decide +kernel, by decide +kernel⟩ ⟨by decide +kernel, by decide +kernel⟩ (hts _ (List.mem_append_right _ (List.mem_append_left _ (List.mem_of_getElem? (i := 219) rfl)))) (hts _ (List.mem_append_right _ (List.mem_append_right _ (List.mem_append_right _ (List.mem_append_right _ (List.mem_append_right _ (List.mem_append_left _ (List.mem_of_getElem? (i := 102) rfl)))))))) (hts _ (List.mem_append_right _ (List.mem_append_right _ (List.mem_append_right _ (List.mem_append_right _ (List.mem_append_right _ (List.mem_append_left _ (List.mem_of_getElem? (i := 103) rfl)))))))) (hts _ (List.mem_append_right _ (List.mem_append_right _ (List.mem_append_right _ (List.mem_append_right _ (List.mem_append_right _ (List.mem_append_left _ (List.mem_of_getElem? (i := 129) rfl)))))))) (hts _ (List.mem_append_right _ (List.mem_append_right _ (List.mem_append_right _ (List.mem_append_right _ (List.mem_append_right _ (List.mem_append_left _ (List.mem_of_getElem? (i := 127) rfl))))))))
    · exact lw_sel (C := RJ4) (y := yJ5_ensureCapacityInternal_d00df) (y2 := ⟨"java/lang/AbstractStringBuilder", "isLatin1", "()Z"⟩) (n := 4) rfl ⟨by decide +kernel, by decide +kernel⟩ ⟨by decide +kernel, by decide +kernel⟩ (hts _ (List.mem_append_right _ (List.mem_append_left _ (List.mem_of_getElem? (i := 219) rfl)))) (hts _ (List.mem_append_right _ (List.mem_append_right _ (List.mem_append_right _ (List.mem_append_right _ (List.mem_append_right _ (List.mem_append_left _ (List.mem_of_getElem? (i := 98) rfl)))))))) (hts _ (List.mem_append_right _ (List.mem_append_right _ (List.mem_append_right _ (List.mem_append_right _ (List.mem_append_right _ (List.mem_append_left _ (List.mem_of_getElem? (i := 99) rfl)))))))) (hts _ (List.mem_append_right _ (List.mem_append_right _ (List.mem_append_right _ (List.mem_append_right _ (List.mem_append_right _ (List.mem_append_left _ (List.mem_of_getElem? (i := 129) rfl)))))))) (hts _ (List.mem_append_right _ (List.mem_append_right _ (List.mem_append_right _ (List.mem_append_right _ (List.mem_append_right _ (List.mem_append_left _ (List.mem_of_getElem? (i := 127) rfl))))))))
    · exact lw_sel (C := RJ4) (y := yJ5_inflate_da8c8) (y2 := ⟨"java/lang/AbstractStringBuilder", "isLatin1", "()Z"⟩) (n := 4) rfl ⟨by decide +kernel, by decide +kernel⟩ ⟨by decide +kernel, by decide +kernel⟩ (hts _ (List.mem_append_right _ (List.mem_append_left _ (List.mem_of_getElem? (i := 219) rfl)))) (hts _ (List.mem_append_right _ (List.mem_append_right _ (List.mem_append_right _ (List.mem_append_right _ (List.mem_append_right _ (List.mem_append_left _ (List.mem_of_getElem? (i := 176) rfl)))))))) (hts _ (List.mem_append_right _ (List.mem_append_right _ (List.mem_append_right _ (List.mem_append_right _ (List.mem_append_right _ (List.mem_append_left _ (List.mem_of_getElem? (i := 177) rfl)))))))) (hts _ (List.mem_append_right _ (List.mem_append_right _ (List.mem_append_right _ (List.mem_append_right _ (List.mem_append_right _ (List.mem_append_left _ (List.mem_of_getElem? (i := 129) rfl)))))))) (hts _ (List.mem_append_right _ (List.mem_append_right _ (List.mem_append_right _ (List.mem_append_right _ (List.mem_append_right _ (List.mem_append_left _ (List.mem_of_getElem? (i := 127) rfl))))))))
    · exact lw_sel (C := RJ4) (y := yJ5_appendNull_278bc) (y2 := ⟨"java/lang/AbstractStringBuilder", "isLatin1", "()Z"⟩) (n := 4) rfl ⟨by decide +kernel, by decide +kernel⟩ ⟨by decide +kernel, by decide +kernel⟩ (hts _ (List.mem_append_right _ (List.mem_append_left _ (List.mem_of_getElem? (i := 219) rfl)))) (hts _ (List.mem_append_right _ (List.mem_append_right _ (List.mem_append_right _ (List.mem_append_right _ (List.mem_append_right _ (List.mem_append_left _ (List.mem_of_getElem? (i := 94) rfl)))))))) (hts _ (List.mem_append_right _ (List.mem_append_right _ (List.mem_append_right _ (List.mem_append_right _ (List.mem_append_right _ (List.mem_append_left _ (List.mem_of_getElem? (i := 95) rfl)))))))) (hts _ (List.mem_append_right _ (List.mem_append_right _ (List.mem_append_right _ (List.mem_append_right _ (List.mem_append_right _ (List.mem_append_left _ (List.mem_of_getElem? (i := 129) rfl)))))))) (hts _ (List.mem_append_right _ (List.mem_append_right _ (List.mem_append_right _ (List.mem_append_right _ (List.mem_append_right _ (List.mem_append_left _ (List.mem_of_getElem? (i := 127) rfl))))))))
    · exact lw_sel (C := RJ4) (y := yJ5_inflateIfNeededFor_a7421) (y2 := ⟨"java/lang/AbstractStringBuilder", "isLatin1", "()Z"⟩) (n := 4) rfl ⟨by decide +kernel, by decide +kernel⟩ ⟨by decide +kernel, by decide +kernel⟩ (hts _ (List.mem_append_right _ (List.mem_append_left _ (List.mem_of_getElem? (i := 219) rfl)))) (hts _ (List.mem_append_right _ (List.mem_append_right _ (List.mem_append_right _ (List.mem_append_right _ (List.mem_append_right _ (List.mem_append_left _ (List.mem_of_getElem? (i := 171) rfl)))))))) (hts _ (List.mem_append_right _ (List.mem_append_right _ (List.mem_append_right _ (List.mem_append_right _ (List.mem_append_right _ (List.mem_append_left _ (List.mem_of_getElem? (i := 172) rfl)))))))) (hts _ (List.mem_append_right _ (List.mem_append_right _ (List.mem_append_right _ (List.mem_append_right _ (List.mem_append_right _ (List.mem_append_left _ (List.mem_of_getElem? (i := 129) rfl)))))))) (hts _ (List.mem_append_right _ (List.mem_append_right _ (List.mem_append_right _ (List.mem_append_right _ (List.mem_append_right _ (List.mem_append_left _ (List.mem_of_getElem? (i := 127) rfl))))))))
    · exact lw_sel (C := RJ4) (y := yJ5_putStringAt_47b60) (y2 := ⟨"java/lang/AbstractStringBuilder", "isLatin1", "()Z"⟩) (n := 4) rfl ⟨by decide +kernel, by decide +kernel⟩ ⟨by decide +kernel, by decide +kernel⟩ (hts _ (List.mem_append_right _ (List.mem_append_left _ (List.mem_of_getElem? (i := 219) rfl)))) (hts _ (List.mem_append_right _ (List.mem_append_right _ (List.mem_append_right _ (List.mem_append_right _ (List.mem_append_right _ (List.mem_append_left _ (List.mem_of_getElem? (i := 167) rfl)))))))) (hts _ (List.mem_append_right _ (List.mem_append_right _ (List.mem_append_right _ (List.mem_append_right _ (List.mem_append_right _ (List.mem_append_left _ (List.mem_of_getElem? (i := 168) rfl)))))))) (hts _ (List.mem_append_right _ (List.mem_append_right _ (List.mem_append_right _ (List.mem_append_right _ (List.mem_append_right _ (List.mem_append_left _ (List.mem_of_getElem? (i := 129) rfl)))))))) (hts _ (List.mem_append_right _ (List.mem_append_right _ (List.mem_append_right _ (List.mem_append_right _ (List.mem_append_right _ (List.mem_append_left _ (List.mem_of_getElem? (i := 127) rfl))))))))
  · exact hts w hw
abbrev lwG (w : Cond) : Prop := w ∈ lw_tbl2 ∧ ((w.onTables && w.keeps) = true ∨ ∃ ty, w = .arrayClass ty)
theorem goodIn_nil {big : List Cond} : GoodIn big [] := fun _ h => absurd h List.not_mem_nil
theorem goodIn_c1 {w : Cond} {a : List Cond} (h : lwG w) (ha : GoodIn lw_tbl2 a) : GoodIn lw_tbl2 (w :: a) := fun v hv => (List.mem_cons.mp hv).elim (fun e => e ▸ h) (ha v)
theorem lwT0 {w : Cond} (h : w ∈ k2_sels lw_privs) : w ∈ lw_tbl2 := List.mem_append_right _ (List.mem_append_left _ h)
theorem lwT1 {w : Cond} (h : w ∈ tables_1_1) : w ∈ lw_tbl2 := List.mem_append_right _ (List.mem_append_right _ (List.mem_append_left _ h))
theorem lwT2 {w : Cond} (h : w ∈ tables_1_2) : w ∈ lw_tbl2 := List.mem_append_right _ (List.mem_append_right _ (List.mem_append_right _ (List.mem_append_left _ h)))
theorem lwT3 {w : Cond} (h : w ∈ tables_1_3) : w ∈ lw_tbl2 := List.mem_append_right _ (List.mem_append_right _ (List.mem_append_right _ (List.mem_append_right _ (List.mem_append_left _ h))))
theorem lwT4 {w : Cond} (h : w ∈ tables_1_4) : w ∈ lw_tbl2 := List.mem_append_right _ (List.mem_append_right _ (List.mem_append_right _ (List.mem_append_right _ (List.mem_append_right _ (List.mem_append_left _ h)))))
theorem lwT5 {w : Cond} (h : w ∈ tables_1_5) : w ∈ lw_tbl2 := List.mem_append_right _ (List.mem_append_right _ (List.mem_append_right _ (List.mem_append_right _ (List.mem_append_right _ (List.mem_append_right _ (List.mem_append_left _ h))))))
theorem lwT6 {w : Cond} (h : w ∈ tables_1_6) : w ∈ lw_tbl2 := List.mem_append_right _ (List.mem_append_right _ (List.mem_append_right _ (List.mem_append_right _ (List.mem_append_right _ (List.mem_append_right _ (List.mem_append_right _ (List.mem_append_left _ h)))))))
theorem lwT7 {w : Cond} (h : w ∈ tables_1_7) : w ∈ lw_tbl2 := List.mem_append_right _ (List.mem_append_right _ (List.mem_append_right _ (List.mem_append_right _ (List.mem_append_right _ (List.mem_append_right _ (List.mem_append_right _ (List.mem_append_right _ (List.mem_append_left _ h))))))))
theorem lwT8 {w : Cond} (h : w ∈ tables_1_8) : w ∈ lw_tbl2 := List.mem_append_right _ (List.mem_append_right _ (List.mem_append_right _ (List.mem_append_right _ (List.mem_append_right _ (List.mem_append_right _ (List.mem_append_right _ (List.mem_append_right _ (List.mem_append_right _ (List.mem_append_left _ h)))))))))
theorem lwT9 {w : Cond} (h : w ∈ tables_1_9) : w ∈ lw_tbl2 := List.mem_append_right _ (List.mem_append_right _ (List.mem_append_right _ (List.mem_append_right _ (List.mem_append_right _ (List.mem_append_right _ (List.mem_append_right _ (List.mem_append_right _ (List.mem_append_right _ (List.mem_append_right _ (h))))))))))
theorem tw0 : lwG (.code yX6_init cX6_init 1 none) := ⟨lwT1 (List.mem_of_getElem? (i := 36) rfl), good_of_word rfl⟩
theorem tw1 : lwG (.initialized RJ4) := ⟨lwT1 (List.mem_of_getElem? (i := 9) rfl), good_of_word rfl⟩
theorem tw2 : lwG (.instantiable RJ4 4) := ⟨lwT1 (List.mem_of_getElem? (i := 219) rfl), good_of_word rfl⟩
theorem tw3 : lwG (.classLink RX6 45 RJ4) := ⟨lwT2 (List.mem_of_getElem? (i := 27) rfl), good_of_word rfl⟩
theorem tw4 : lwG (.fieldLink RX6 41 "SnowDispatcher" "script" "LSnowDispatcher$Script;") := ⟨lwT2 (List.mem_of_getElem? (i := 34) rfl), good_of_word rfl⟩
theorem tw5 : lwG (.initialized RX3) := ⟨lwT1 (List.mem_of_getElem? (i := 7) rfl), good_of_word rfl⟩
theorem tw6 : lwG (.instantiable RX3 4) := ⟨lwT1 (List.mem_of_getElem? (i := 213) rfl), good_of_word rfl⟩
theorem tw7 : lwG (.classLink RX6 38 RX3) := ⟨lwT1 (List.mem_of_getElem? (i := 212) rfl), good_of_word rfl⟩
theorem tw8 : lwG (.fieldLink RX6 34 "SnowDispatcher" "history" "LSnowDispatcher$History;") := ⟨lwT2 (List.mem_of_getElem? (i := 33) rfl), good_of_word rfl⟩
theorem tw9 : lwG (.initialized RX0) := ⟨lwT1 (List.mem_of_getElem? (i := 6) rfl), good_of_word rfl⟩
theorem tw10 : lwG (.instantiable RX0 3) := ⟨lwT1 (List.mem_of_getElem? (i := 193) rfl), good_of_word rfl⟩
theorem tw11 : lwG (.classLink RX6 31 RX0) := ⟨lwT1 (List.mem_of_getElem? (i := 192) rfl), good_of_word rfl⟩
theorem tw12 : lwG (.fieldLink RX6 28 "SnowDispatcher" "snapshot" "LSnowDispatcher$Town;") := ⟨lwT2 (List.mem_of_getElem? (i := 32) rfl), good_of_word rfl⟩
theorem tw13 : lwG (.fieldLink RX6 25 "SnowDispatcher" "future" "LSnowDispatcher$Town;") := ⟨lwT2 (List.mem_of_getElem? (i := 31) rfl), good_of_word rfl⟩
theorem tw14 : lwG (.fieldLink RX6 21 "SnowDispatcher" "town" "LSnowDispatcher$Town;") := ⟨lwT2 (List.mem_of_getElem? (i := 30) rfl), good_of_word rfl⟩
theorem tw15 : lwG (.initialized RX5) := ⟨lwT1 (List.mem_of_getElem? (i := 3) rfl), good_of_word rfl⟩
theorem tw16 : lwG (.instantiable RX5 11) := ⟨lwT1 (List.mem_of_getElem? (i := 59) rfl), good_of_word rfl⟩
theorem tw17 : lwG (.classLink RX6 16 RX5) := ⟨lwT1 (List.mem_of_getElem? (i := 58) rfl), good_of_word rfl⟩
theorem tw18 : lwG (.fieldLink RX6 10 "SnowDispatcher" "paths" "LSnowDispatcher$Paths;") := ⟨lwT2 (List.mem_of_getElem? (i := 29) rfl), good_of_word rfl⟩
theorem tw19 : lwG (.initialized RX1) := ⟨lwT1 (List.mem_of_getElem? (i := 2) rfl), good_of_word rfl⟩
theorem tw20 : lwG (.instantiable RX1 3) := ⟨lwT1 (List.mem_of_getElem? (i := 41) rfl), good_of_word rfl⟩
theorem tw21 : lwG (.classLink RX6 7 RX1) := ⟨lwT1 (List.mem_of_getElem? (i := 40) rfl), good_of_word rfl⟩
theorem tw22 : lwG (.code objectInit ⟨#[0xb1]⟩ 1 none) := ⟨lwT1 (List.mem_of_getElem? (i := 39) rfl), good_of_word rfl⟩
theorem tw23 : lwG (.instanceMethod objectInit) := ⟨lwT1 (List.mem_of_getElem? (i := 38) rfl), good_of_word rfl⟩
theorem tw24 : lwG (.methodLink RX6 1 objectInit) := ⟨lwT1 (List.mem_of_getElem? (i := 37) rfl), good_of_word rfl⟩
theorem tw25 : lwG (.initialized RX2) := ⟨lwT1 (List.mem_of_getElem? (i := 5) rfl), good_of_word rfl⟩
theorem tw26 : lwG (.instantiable RX2 6) := ⟨lwT1 (List.mem_of_getElem? (i := 117) rfl), good_of_word rfl⟩
theorem tw27 : lwG (.classLink RX5 22 RX2) := ⟨lwT1 (List.mem_of_getElem? (i := 116) rfl), good_of_word rfl⟩
theorem tw28 : lwG (.fieldLink RX5 18 "SnowDispatcher$Town" "streets" "LSnowDispatcher$Streets;") := ⟨lwT1 (List.mem_of_getElem? (i := 149) rfl), good_of_word rfl⟩
theorem tw29 : lwG (.initialized RX4) := ⟨lwT1 (List.mem_of_getElem? (i := 4) rfl), good_of_word rfl⟩
theorem tw30 : lwG (.instantiable RX4 9) := ⟨lwT1 (List.mem_of_getElem? (i := 65) rfl), good_of_word rfl⟩
theorem tw31 : lwG (.classLink RX5 15 RX4) := ⟨lwT1 (List.mem_of_getElem? (i := 64) rfl), good_of_word rfl⟩
theorem tw32 : lwG (.fieldLink RX5 9 "SnowDispatcher$Town" "paths" "LSnowDispatcher$Paths;") := ⟨lwT1 (List.mem_of_getElem? (i := 148) rfl), good_of_word rfl⟩
theorem tw33 : lwG (.methodLink RX5 3 objectInit) := ⟨lwT1 (List.mem_of_getElem? (i := 63) rfl), good_of_word rfl⟩
theorem tw34 : lwG (.code yX5_init cX5_init 2 none) := ⟨lwT1 (List.mem_of_getElem? (i := 62) rfl), good_of_word rfl⟩
theorem tw35 : lwG (.instanceMethod yX5_init) := ⟨lwT1 (List.mem_of_getElem? (i := 61) rfl), good_of_word rfl⟩
theorem tw36 : lwG (.methodLink RX6 18 yX5_init) := ⟨lwT1 (List.mem_of_getElem? (i := 60) rfl), good_of_word rfl⟩
theorem tw37 : lwG (.fieldLink RX1 19 "SnowDispatcher$Paths" "table" "[I") := ⟨lwT1 (List.mem_of_getElem? (i := 48) rfl), good_of_word rfl⟩
theorem tw38 : lwG (.fieldLink RX1 15 "SnowDispatcher$Paths" "settled" "[Z") := ⟨lwT1 (List.mem_of_getElem? (i := 47) rfl), good_of_word rfl⟩
theorem tw39 : lwG (.arrayClass .boolean) := ⟨lwT1 (List.mem_of_getElem? (i := 57) rfl), good_of_word rfl⟩
theorem tw40 : lwG (.fieldLink RX1 9 "SnowDispatcher$Paths" "reach" "[I") := ⟨lwT1 (List.mem_of_getElem? (i := 46) rfl), good_of_word rfl⟩
theorem tw41 : lwG (.arrayClass .int) := ⟨lwT1 (List.mem_of_getElem? (i := 56) rfl), good_of_word rfl⟩
theorem tw42 : lwG (.methodLink RX1 3 objectInit) := ⟨lwT1 (List.mem_of_getElem? (i := 45) rfl), good_of_word rfl⟩
theorem tw43 : lwG (.code yX1_init cX1_init 1 none) := ⟨lwT1 (List.mem_of_getElem? (i := 44) rfl), good_of_word rfl⟩
theorem tw44 : lwG (.instanceMethod yX1_init) := ⟨lwT1 (List.mem_of_getElem? (i := 43) rfl), good_of_word rfl⟩
theorem tw45 : lwG (.fieldLink RX6 60 "SnowDispatcher" "refusedCommand" "I") := ⟨lwT2 (List.mem_of_getElem? (i := 38) rfl), good_of_word rfl⟩
theorem tw46 : lwG (.fieldLink RX6 56 "SnowDispatcher" "wrongPosition" "I") := ⟨lwT2 (List.mem_of_getElem? (i := 37) rfl), good_of_word rfl⟩
theorem tw47 : lwG (.fieldLink RX6 52 "SnowDispatcher" "saved" "Z") := ⟨lwT2 (List.mem_of_getElem? (i := 36) rfl), good_of_word rfl⟩
theorem tw48 : lwG (.fieldLink RX6 48 "SnowDispatcher" "output" "Ljava/lang/StringBuilder;") := ⟨lwT2 (List.mem_of_getElem? (i := 35) rfl), good_of_word rfl⟩
theorem tw49 : lwG (.code yX0_init cX0_init 3 none) := ⟨lwT1 (List.mem_of_getElem? (i := 196) rfl), good_of_word rfl⟩
theorem tw50 : lwG (.instanceMethod yX0_init) := ⟨lwT1 (List.mem_of_getElem? (i := 195) rfl), good_of_word rfl⟩
theorem tw51 : lwG (.methodLink RX6 33 yX0_init) := ⟨lwT1 (List.mem_of_getElem? (i := 194) rfl), good_of_word rfl⟩
theorem tw52 : lwG (.fieldLink RX2 24 "SnowDispatcher$Ploughs" "orders" "[I") := ⟨lwT1 (List.mem_of_getElem? (i := 131) rfl), good_of_word rfl⟩
theorem tw53 : lwG (.fieldLink RX2 21 "SnowDispatcher$Ploughs" "waiting" "[I") := ⟨lwT1 (List.mem_of_getElem? (i := 129) rfl), good_of_word rfl⟩
theorem tw54 : lwG (.fieldLink RX2 18 "SnowDispatcher$Ploughs" "minutesLeft" "[I") := ⟨lwT1 (List.mem_of_getElem? (i := 127) rfl), good_of_word rfl⟩
theorem tw55 : lwG (.fieldLink RX2 15 "SnowDispatcher$Ploughs" "target" "[I") := ⟨lwT1 (List.mem_of_getElem? (i := 125) rfl), good_of_word rfl⟩
theorem tw56 : lwG (.fieldLink RX2 9 "SnowDispatcher$Ploughs" "place" "[I") := ⟨lwT1 (List.mem_of_getElem? (i := 122) rfl), good_of_word rfl⟩
theorem tw57 : lwG (.methodLink RX2 3 objectInit) := ⟨lwT1 (List.mem_of_getElem? (i := 121) rfl), good_of_word rfl⟩
theorem tw58 : lwG (.code yX2_init cX2_init 1 none) := ⟨lwT1 (List.mem_of_getElem? (i := 120) rfl), good_of_word rfl⟩
theorem tw59 : lwG (.instanceMethod yX2_init) := ⟨lwT1 (List.mem_of_getElem? (i := 119) rfl), good_of_word rfl⟩
theorem tw60 : lwG (.fieldLink RX4 34 "SnowDispatcher$Streets" "clearings" "[I") := ⟨lwT1 (List.mem_of_getElem? (i := 91) rfl), good_of_word rfl⟩
theorem tw61 : lwG (.fieldLink RX4 31 "SnowDispatcher$Streets" "complained" "[I") := ⟨lwT1 (List.mem_of_getElem? (i := 89) rfl), good_of_word rfl⟩
theorem tw62 : lwG (.fieldLink RX4 28 "SnowDispatcher$Streets" "saltEnd" "[I") := ⟨lwT1 (List.mem_of_getElem? (i := 87) rfl), good_of_word rfl⟩
theorem tw63 : lwG (.fieldLink RX4 25 "SnowDispatcher$Streets" "snow" "[I") := ⟨lwT1 (List.mem_of_getElem? (i := 84) rfl), good_of_word rfl⟩
theorem tw64 : lwG (.fieldLink RX4 22 "SnowDispatcher$Streets" "size" "[I") := ⟨lwT1 (List.mem_of_getElem? (i := 80) rfl), good_of_word rfl⟩
theorem tw65 : lwG (.fieldLink RX4 18 "SnowDispatcher$Streets" "kind" "[C") := ⟨lwT1 (List.mem_of_getElem? (i := 78) rfl), good_of_word rfl⟩
theorem tw66 : lwG (.arrayClass .char) := ⟨lwT1 (List.mem_of_getElem? (i := 115) rfl), good_of_word rfl⟩
theorem tw67 : lwG (.fieldLink RX4 15 "SnowDispatcher$Streets" "higher" "[I") := ⟨lwT1 (List.mem_of_getElem? (i := 74) rfl), good_of_word rfl⟩
theorem tw68 : lwG (.fieldLink RX4 9 "SnowDispatcher$Streets" "lower" "[I") := ⟨lwT1 (List.mem_of_getElem? (i := 70) rfl), good_of_word rfl⟩
theorem tw69 : lwG (.methodLink RX4 3 objectInit) := ⟨lwT1 (List.mem_of_getElem? (i := 69) rfl), good_of_word rfl⟩
theorem tw70 : lwG (.code yX4_init cX4_init 1 none) := ⟨lwT1 (List.mem_of_getElem? (i := 68) rfl), good_of_word rfl⟩
theorem tw71 : lwG (.instanceMethod yX4_init) := ⟨lwT1 (List.mem_of_getElem? (i := 67) rfl), good_of_word rfl⟩
theorem tw72 : lwG (.fieldLink RX5 25 "SnowDispatcher$Town" "ploughs" "LSnowDispatcher$Ploughs;") := ⟨lwT1 (List.mem_of_getElem? (i := 151) rfl), good_of_word rfl⟩
theorem tw73 : lwG (.static yJ2_newBytesFor_77867) := ⟨lwT1 (List.mem_of_getElem? (i := 230) rfl), good_of_word rfl⟩
theorem tw74 : lwG (.methodLink RJ5 26 yJ2_newBytesFor_77867) := ⟨lwT1 (List.mem_of_getElem? (i := 229) rfl), good_of_word rfl⟩
theorem tw75 : lwG (.fieldLink RJ5 22 "java/lang/AbstractStringBuilder" "coder" "B") := ⟨lwT1 (List.mem_of_getElem? (i := 237) rfl), good_of_word rfl⟩
theorem tw76 : lwG (.fieldLink RJ5 15 "java/lang/AbstractStringBuilder" "value" "[B") := ⟨lwT1 (List.mem_of_getElem? (i := 236) rfl), good_of_word rfl⟩
theorem tw77 : lwG (.arrayClass .byte) := ⟨lwT2 (List.mem_of_getElem? (i := 10) rfl), good_of_word rfl⟩
theorem tw78 : lwG (.fieldLink RJ5 18 "java/lang/String" "COMPACT_STRINGS" "Z") := ⟨lwT1 (List.mem_of_getElem? (i := 227) rfl), good_of_word rfl⟩
theorem tw79 : lwG (.methodLink RJ5 3 objectInit) := ⟨lwT1 (List.mem_of_getElem? (i := 226) rfl), good_of_word rfl⟩
theorem tw80 : lwG (.code yJ5_init_d00df cJ5_init_d00df 2 none) := ⟨lwT1 (List.mem_of_getElem? (i := 225) rfl), good_of_word rfl⟩
theorem tw81 : lwG (.initialized RJ5) := ⟨lwT1 (List.mem_of_getElem? (i := 8) rfl), good_of_word rfl⟩
theorem tw82 : lwG (.instanceMethod yJ5_init_d00df) := ⟨lwT1 (List.mem_of_getElem? (i := 224) rfl), good_of_word rfl⟩
theorem tw83 : lwG (.methodLink RJ4 1 yJ5_init_d00df) := ⟨lwT1 (List.mem_of_getElem? (i := 223) rfl), good_of_word rfl⟩
theorem tw84 : lwG (.code yJ4_init_da8c8 cJ4_init_da8c8 1 none) := ⟨lwT1 (List.mem_of_getElem? (i := 222) rfl), good_of_word rfl⟩
theorem tw85 : lwG (.instanceMethod yJ4_init_da8c8) := ⟨lwT1 (List.mem_of_getElem? (i := 221) rfl), good_of_word rfl⟩
theorem tw86 : lwG (.methodLink RX3 11 yJ4_init_da8c8) := ⟨lwT1 (List.mem_of_getElem? (i := 220) rfl), good_of_word rfl⟩
theorem tw87 : lwG (.fieldLink RX3 18 "SnowDispatcher$Script" "values" "[I") := ⟨lwT2 (List.mem_of_getElem? (i := 13) rfl), good_of_word rfl⟩
theorem tw88 : lwG (.fieldLink RX3 12 "SnowDispatcher$Script" "text" "Ljava/lang/StringBuilder;") := ⟨lwT2 (List.mem_of_getElem? (i := 11) rfl), good_of_word rfl⟩
theorem tw89 : lwG (.classLink RX3 9 RJ4) := ⟨lwT1 (List.mem_of_getElem? (i := 218) rfl), good_of_word rfl⟩
theorem tw90 : lwG (.methodLink RX3 3 objectInit) := ⟨lwT1 (List.mem_of_getElem? (i := 217) rfl), good_of_word rfl⟩
theorem tw91 : lwG (.code yX3_init cX3_init 1 none) := ⟨lwT1 (List.mem_of_getElem? (i := 216) rfl), good_of_word rfl⟩
theorem tw92 : lwG (.instanceMethod yX3_init) := ⟨lwT1 (List.mem_of_getElem? (i := 215) rfl), good_of_word rfl⟩
theorem tw93 : lwG (.methodLink RX0 17 yX5_init) := ⟨lwT1 (List.mem_of_getElem? (i := 200) rfl), good_of_word rfl⟩
theorem tw94 : lwG (.fieldLink RX0 13 "SnowDispatcher$History" "ring" "[LSnowDispatcher$Town;") := ⟨lwT1 (List.mem_of_getElem? (i := 201) rfl), good_of_word rfl⟩
theorem tw95 : lwG (.classLink RX0 11 RX5) := ⟨lwT1 (List.mem_of_getElem? (i := 198) rfl), good_of_word rfl⟩
theorem tw96 : lwG (.methodLink RX0 3 objectInit) := ⟨lwT1 (List.mem_of_getElem? (i := 197) rfl), good_of_word rfl⟩
theorem tw97 : lwG (.methodLink RX6 47 yJ4_init_da8c8) := ⟨lwT2 (List.mem_of_getElem? (i := 28) rfl), good_of_word rfl⟩
theorem tw98 : lwG (.constant RJ2 20 (1073741823)) := ⟨lwT1 (List.mem_of_getElem? (i := 235) rfl), good_of_word rfl⟩
theorem tw99 : lwG (.code yJ2_newBytesLength_0f7a4 cJ2_newBytesLength_0f7a4 1 (some .int)) := ⟨lwT1 (List.mem_of_getElem? (i := 234) rfl), good_of_word rfl⟩
theorem tw100 : lwG (.static yJ2_newBytesLength_0f7a4) := ⟨lwT1 (List.mem_of_getElem? (i := 233) rfl), good_of_word rfl⟩
theorem tw101 : lwG (.methodLink RJ2 11 yJ2_newBytesLength_0f7a4) := ⟨lwT1 (List.mem_of_getElem? (i := 232) rfl), good_of_word rfl⟩
theorem tw102 : lwG (.code yJ2_newBytesFor_77867 cJ2_newBytesFor_77867 1 (some (.array .byte))) := ⟨lwT1 (List.mem_of_getElem? (i := 231) rfl), good_of_word rfl⟩
theorem tw103 : lwG (.initialized RJ2) := ⟨lwT1 (List.mem_of_getElem? (i := 11) rfl), good_of_word rfl⟩
theorem tw104 : lwG (.code yX7_init cX7_init 1 none) := ⟨lwT7 (List.mem_of_getElem? (i := 28) rfl), good_of_word rfl⟩
theorem tw105 : lwG (.fieldLink RX7 44 "SnowDispatcherModel" "commands" "[I") := ⟨lwT7 (List.mem_of_getElem? (i := 46) rfl), good_of_word rfl⟩
theorem tw106 : lwG (.fieldLink RX7 41 "SnowDispatcherModel" "tape" "[I") := ⟨lwT7 (List.mem_of_getElem? (i := 45) rfl), good_of_word rfl⟩
theorem tw107 : lwG (.fieldLink RX7 38 "SnowDispatcherModel" "line" "[I") := ⟨lwT7 (List.mem_of_getElem? (i := 43) rfl), good_of_word rfl⟩
theorem tw108 : lwG (.fieldLink RX7 35 "SnowDispatcherModel" "failedAt" "I") := ⟨lwT7 (List.mem_of_getElem? (i := 40) rfl), good_of_word rfl⟩
theorem tw109 : lwG (.fieldLink RX7 31 "SnowDispatcherModel" "errorAt" "I") := ⟨lwT7 (List.mem_of_getElem? (i := 39) rfl), good_of_word rfl⟩
theorem tw110 : lwG (.fieldLink RX7 28 "SnowDispatcherModel" "drift" "[I") := ⟨lwT7 (List.mem_of_getElem? (i := 36) rfl), good_of_word rfl⟩
theorem tw111 : lwG (.fieldLink RX7 25 "SnowDispatcherModel" "far" "[I") := ⟨lwT7 (List.mem_of_getElem? (i := 35) rfl), good_of_word rfl⟩
theorem tw112 : lwG (.fieldLink RX7 22 "SnowDispatcherModel" "past" "[I") := ⟨lwT7 (List.mem_of_getElem? (i := 34) rfl), good_of_word rfl⟩
theorem tw113 : lwG (.fieldLink RX7 19 "SnowDispatcherModel" "saved" "[I") := ⟨lwT7 (List.mem_of_getElem? (i := 33) rfl), good_of_word rfl⟩
theorem tw114 : lwG (.fieldLink RX7 16 "SnowDispatcherModel" "tried" "[I") := ⟨lwT7 (List.mem_of_getElem? (i := 32) rfl), good_of_word rfl⟩
theorem tw115 : lwG (.fieldLink RX7 13 "SnowDispatcherModel" "was" "[I") := ⟨lwT7 (List.mem_of_getElem? (i := 31) rfl), good_of_word rfl⟩
theorem tw116 : lwG (.fieldLink RX7 9 "SnowDispatcherModel" "s" "[I") := ⟨lwT7 (List.mem_of_getElem? (i := 30) rfl), good_of_word rfl⟩
theorem tw117 : lwG (.methodLink RX7 3 objectInit) := ⟨lwT7 (List.mem_of_getElem? (i := 29) rfl), good_of_word rfl⟩
theorem tw118 : lwG (.initialized RL) := ⟨lwT1 (List.mem_of_getElem? (i := 0) rfl), good_of_word rfl⟩
theorem tw119 : lwG (.static yL_addStreet) := ⟨lwT2 (List.mem_of_getElem? (i := 177) rfl), good_of_word rfl⟩
theorem tw120 : lwG (.methodLink RL 157 yL_addStreet) := ⟨lwT2 (List.mem_of_getElem? (i := 176) rfl), good_of_word rfl⟩
theorem tw121 : lwG (.codeWith yL_addStreet cL_addStreet 7 (some .int) [(0, 14, 17, 13), (0, 14, 21, 15), (0, 14, 25, 17)]) := ⟨lwT2 (List.mem_of_getElem? (i := 178) rfl), good_of_word rfl⟩
theorem tw122 : lwG (.initialized RX6) := ⟨lwT1 (List.mem_of_getElem? (i := 1) rfl), good_of_word rfl⟩
theorem tw123 : lwG (.selects RX6 yX6_addStreet yX6_addStreet) := ⟨lwT3 (List.mem_of_getElem? (i := 23) rfl), good_of_word rfl⟩
theorem tw124 : lwG (.instanceMethod yX6_addStreet) := ⟨lwT3 (List.mem_of_getElem? (i := 22) rfl), good_of_word rfl⟩
theorem tw125 : lwG (.methodLink RL 7 yX6_addStreet) := ⟨lwT3 (List.mem_of_getElem? (i := 21) rfl), good_of_word rfl⟩
theorem tw126 : lwG (.classLink RL 17 "java/lang/IllegalStateException") := ⟨lwT3 (List.mem_of_getElem? (i := 20) rfl), good_of_word rfl⟩
theorem tw127 : lwG (.classLink RL 15 "java/lang/IllegalArgumentException") := ⟨lwT3 (List.mem_of_getElem? (i := 19) rfl), good_of_word rfl⟩
theorem tw128 : lwG (.classLink RL 13 "java/lang/IndexOutOfBoundsException") := ⟨lwT2 (List.mem_of_getElem? (i := 179) rfl), good_of_word rfl⟩
theorem tw129 : lwG (.code yX6_addStreet cX6_addStreet 6 (some .int)) := ⟨lwT3 (List.mem_of_getElem? (i := 24) rfl), good_of_word rfl⟩
theorem tw130 : lwG (.code yX5_copyFrom cX5_copyFrom 2 none) := ⟨lwT2 (List.mem_of_getElem? (i := 163) rfl), good_of_word rfl⟩
theorem tw131 : lwG (.selects RX5 yX5_copyFrom yX5_copyFrom) := ⟨lwT2 (List.mem_of_getElem? (i := 162) rfl), good_of_word rfl⟩
theorem tw132 : lwG (.instanceMethod yX5_copyFrom) := ⟨lwT2 (List.mem_of_getElem? (i := 161) rfl), good_of_word rfl⟩
theorem tw133 : lwG (.methodLink RX0 24 yX5_copyFrom) := ⟨lwT3 (List.mem_of_getElem? (i := 33) rfl), good_of_word rfl⟩
theorem tw134 : lwG (.fieldLink RX0 28 "SnowDispatcher$History" "free" "I") := ⟨lwT1 (List.mem_of_getElem? (i := 202) rfl), good_of_word rfl⟩
theorem tw135 : lwG (.code yX0_freePlace cX0_freePlace 1 (some (.object "SnowDispatcher$Town"))) := ⟨lwT3 (List.mem_of_getElem? (i := 32) rfl), good_of_word rfl⟩
theorem tw136 : lwG (.selects RX0 yX0_freePlace yX0_freePlace) := ⟨lwT0 (List.mem_of_getElem? (i := 5) rfl), good_of_word rfl⟩
theorem tw137 : lwG (.instanceMethod yX0_freePlace) := ⟨lwT3 (List.mem_of_getElem? (i := 31) rfl), good_of_word rfl⟩
theorem tw138 : lwG (.methodLink RX0 20 yX0_freePlace) := ⟨lwT3 (List.mem_of_getElem? (i := 29) rfl), good_of_word rfl⟩
theorem tw139 : lwG (.code yX0_write cX0_write 3 none) := ⟨lwT3 (List.mem_of_getElem? (i := 28) rfl), good_of_word rfl⟩
theorem tw140 : lwG (.selects RX0 yX0_write yX0_write) := ⟨lwT3 (List.mem_of_getElem? (i := 27) rfl), good_of_word rfl⟩
theorem tw141 : lwG (.instanceMethod yX0_write) := ⟨lwT3 (List.mem_of_getElem? (i := 26) rfl), good_of_word rfl⟩
theorem tw142 : lwG (.methodLink RX6 63 yX0_write) := ⟨lwT3 (List.mem_of_getElem? (i := 25) rfl), good_of_word rfl⟩
theorem tw143 : lwG (.initialized "java/lang/IllegalStateException") := ⟨lwT1 (List.mem_of_getElem? (i := 21) rfl), good_of_word rfl⟩
theorem tw144 : lwG (.classLink RX6 83 "java/lang/IllegalStateException") := ⟨lwT3 (List.mem_of_getElem? (i := 80) rfl), good_of_word rfl⟩
theorem tw145 : lwG (.initialized "java/lang/IllegalArgumentException") := ⟨lwT1 (List.mem_of_getElem? (i := 20) rfl), good_of_word rfl⟩
theorem tw146 : lwG (.classLink RX6 78 "java/lang/IllegalArgumentException") := ⟨lwT3 (List.mem_of_getElem? (i := 64) rfl), good_of_word rfl⟩
theorem tw147 : lwG (.initialized "java/lang/IndexOutOfBoundsException") := ⟨lwT1 (List.mem_of_getElem? (i := 16) rfl), good_of_word rfl⟩
theorem tw148 : lwG (.classLink RX6 71 "java/lang/IndexOutOfBoundsException") := ⟨lwT3 (List.mem_of_getElem? (i := 51) rfl), good_of_word rfl⟩
theorem tw149 : lwG (.initialized "java/lang/System") := ⟨lwT1 (List.mem_of_getElem? (i := 18) rfl), good_of_word rfl⟩
theorem tw150 : lwG (.static arraycopyName) := ⟨lwT2 (List.mem_of_getElem? (i := 169) rfl), good_of_word rfl⟩
theorem tw151 : lwG (.native arraycopyName) := ⟨lwT2 (List.mem_of_getElem? (i := 170) rfl), good_of_word rfl⟩
theorem tw152 : lwG (.methodLink RX4 41 arraycopyName) := ⟨lwT2 (List.mem_of_getElem? (i := 168) rfl), good_of_word rfl⟩
theorem tw153 : lwG (.code yX4_copyFrom cX4_copyFrom 2 none) := ⟨lwT2 (List.mem_of_getElem? (i := 167) rfl), good_of_word rfl⟩
theorem tw154 : lwG (.selects RX4 yX4_copyFrom yX4_copyFrom) := ⟨lwT2 (List.mem_of_getElem? (i := 166) rfl), good_of_word rfl⟩
theorem tw155 : lwG (.instanceMethod yX4_copyFrom) := ⟨lwT2 (List.mem_of_getElem? (i := 165) rfl), good_of_word rfl⟩
theorem tw156 : lwG (.methodLink RX5 29 yX4_copyFrom) := ⟨lwT2 (List.mem_of_getElem? (i := 164) rfl), good_of_word rfl⟩
theorem tw157 : lwG (.fieldLink RX5 58 "SnowDispatcher$Town" "complained" "I") := ⟨lwT1 (List.mem_of_getElem? (i := 167) rfl), good_of_word rfl⟩
theorem tw158 : lwG (.fieldLink RX5 55 "SnowDispatcher$Town" "failed" "I") := ⟨lwT1 (List.mem_of_getElem? (i := 165) rfl), good_of_word rfl⟩
theorem tw159 : lwG (.fieldLink RX5 52 "SnowDispatcher$Town" "ploughed" "I") := ⟨lwT1 (List.mem_of_getElem? (i := 163) rfl), good_of_word rfl⟩
theorem tw160 : lwG (.fieldLink RX5 49 "SnowDispatcher$Town" "cleared" "I") := ⟨lwT1 (List.mem_of_getElem? (i := 161) rfl), good_of_word rfl⟩
theorem tw161 : lwG (.fieldLink RX5 46 "SnowDispatcher$Town" "force" "I") := ⟨lwT1 (List.mem_of_getElem? (i := 159) rfl), good_of_word rfl⟩
theorem tw162 : lwG (.fieldLink RX5 43 "SnowDispatcher$Town" "rate" "I") := ⟨lwT1 (List.mem_of_getElem? (i := 157) rfl), good_of_word rfl⟩
theorem tw163 : lwG (.fieldLink RX5 40 "SnowDispatcher$Town" "store" "I") := ⟨lwT1 (List.mem_of_getElem? (i := 155) rfl), good_of_word rfl⟩
theorem tw164 : lwG (.fieldLink RX5 36 "SnowDispatcher$Town" "time" "I") := ⟨lwT1 (List.mem_of_getElem? (i := 153) rfl), good_of_word rfl⟩
theorem tw165 : lwG (.code Lib.Math.min.name Lib.Math.min.code 2 (some .int)) := ⟨lwT2 (List.mem_of_getElem? (i := 142) rfl), good_of_word rfl⟩
theorem tw166 : lwG (.initialized "java/lang/Math") := ⟨lwT1 (List.mem_of_getElem? (i := 19) rfl), good_of_word rfl⟩
theorem tw167 : lwG (.static Lib.Math.min.name) := ⟨lwT2 (List.mem_of_getElem? (i := 141) rfl), good_of_word rfl⟩
theorem tw168 : lwG (.methodLink RX5 65 Lib.Math.min.name) := ⟨lwT3 (List.mem_of_getElem? (i := 39) rfl), good_of_word rfl⟩
theorem tw169 : lwG (.code yX5_putStreet cX5_putStreet 7 (some .int)) := ⟨lwT3 (List.mem_of_getElem? (i := 37) rfl), good_of_word rfl⟩
theorem tw170 : lwG (.selects RX5 yX5_putStreet yX5_putStreet) := ⟨lwT3 (List.mem_of_getElem? (i := 36) rfl), good_of_word rfl⟩
theorem tw171 : lwG (.instanceMethod yX5_putStreet) := ⟨lwT3 (List.mem_of_getElem? (i := 35) rfl), good_of_word rfl⟩
theorem tw172 : lwG (.methodLink RX6 67 yX5_putStreet) := ⟨lwT3 (List.mem_of_getElem? (i := 34) rfl), good_of_word rfl⟩
theorem tw173 : lwG (.fieldLink RX2 27 "SnowDispatcher$Ploughs" "count" "I") := ⟨lwT1 (List.mem_of_getElem? (i := 132) rfl), good_of_word rfl⟩
theorem tw174 : lwG (.methodLink RX2 31 arraycopyName) := ⟨lwT2 (List.mem_of_getElem? (i := 175) rfl), good_of_word rfl⟩
theorem tw175 : lwG (.code yX2_copyFrom cX2_copyFrom 2 none) := ⟨lwT2 (List.mem_of_getElem? (i := 174) rfl), good_of_word rfl⟩
theorem tw176 : lwG (.selects RX2 yX2_copyFrom yX2_copyFrom) := ⟨lwT2 (List.mem_of_getElem? (i := 173) rfl), good_of_word rfl⟩
theorem tw177 : lwG (.instanceMethod yX2_copyFrom) := ⟨lwT2 (List.mem_of_getElem? (i := 172) rfl), good_of_word rfl⟩
theorem tw178 : lwG (.methodLink RX5 33 yX2_copyFrom) := ⟨lwT2 (List.mem_of_getElem? (i := 171) rfl), good_of_word rfl⟩
theorem tw179 : lwG (.fieldLink RX4 37 "SnowDispatcher$Streets" "count" "I") := ⟨lwT1 (List.mem_of_getElem? (i := 93) rfl), good_of_word rfl⟩
theorem tw180 : lwG (.methodLink RX0 35 Lib.Math.min.name) := ⟨lwT3 (List.mem_of_getElem? (i := 100) rfl), good_of_word rfl⟩
theorem tw181 : lwG (.fieldLink RX0 32 "SnowDispatcher$History" "count" "I") := ⟨lwT1 (List.mem_of_getElem? (i := 203) rfl), good_of_word rfl⟩
theorem tw182 : lwG (.code yX0_push cX0_push 1 none) := ⟨lwT3 (List.mem_of_getElem? (i := 99) rfl), good_of_word rfl⟩
theorem tw183 : lwG (.selects RX0 yX0_push yX0_push) := ⟨lwT3 (List.mem_of_getElem? (i := 98) rfl), good_of_word rfl⟩
theorem tw184 : lwG (.instanceMethod yX0_push) := ⟨lwT3 (List.mem_of_getElem? (i := 97) rfl), good_of_word rfl⟩
theorem tw185 : lwG (.methodLink RX6 88 yX0_push) := ⟨lwT3 (List.mem_of_getElem? (i := 96) rfl), good_of_word rfl⟩
theorem tw186 : lwG (.code yX4_put cX4_put 6 (some .int)) := ⟨lwT3 (List.mem_of_getElem? (i := 50) rfl), good_of_word rfl⟩
theorem tw187 : lwG (.selects RX4 yX4_put yX4_put) := ⟨lwT3 (List.mem_of_getElem? (i := 49) rfl), good_of_word rfl⟩
theorem tw188 : lwG (.instanceMethod yX4_put) := ⟨lwT3 (List.mem_of_getElem? (i := 48) rfl), good_of_word rfl⟩
theorem tw189 : lwG (.methodLink RX5 78 yX4_put) := ⟨lwT3 (List.mem_of_getElem? (i := 47) rfl), good_of_word rfl⟩
theorem tw190 : lwG (.code yX4_areConnected cX4_areConnected 4 (some .boolean)) := ⟨lwT3 (List.mem_of_getElem? (i := 46) rfl), good_of_word rfl⟩
theorem tw191 : lwG (.selects RX4 yX4_areConnected yX4_areConnected) := ⟨lwT3 (List.mem_of_getElem? (i := 45) rfl), good_of_word rfl⟩
theorem tw192 : lwG (.instanceMethod yX4_areConnected) := ⟨lwT3 (List.mem_of_getElem? (i := 44) rfl), good_of_word rfl⟩
theorem tw193 : lwG (.methodLink RX5 74 yX4_areConnected) := ⟨lwT3 (List.mem_of_getElem? (i := 43) rfl), good_of_word rfl⟩
theorem tw194 : lwG (.code yX6_isJunction cX6_isJunction 1 (some .boolean)) := ⟨lwT2 (List.mem_of_getElem? (i := 119) rfl), good_of_word rfl⟩
theorem tw195 : lwG (.static yX6_isJunction) := ⟨lwT2 (List.mem_of_getElem? (i := 118) rfl), good_of_word rfl⟩
theorem tw196 : lwG (.code Lib.Math.max.name Lib.Math.max.code 2 (some .int)) := ⟨lwT3 (List.mem_of_getElem? (i := 42) rfl), good_of_word rfl⟩
theorem tw197 : lwG (.static Lib.Math.max.name) := ⟨lwT3 (List.mem_of_getElem? (i := 41) rfl), good_of_word rfl⟩
theorem tw198 : lwG (.methodLink RX5 71 Lib.Math.max.name) := ⟨lwT3 (List.mem_of_getElem? (i := 40) rfl), good_of_word rfl⟩
theorem tw199 : lwG (.initialized RX7) := ⟨lwT1 (List.mem_of_getElem? (i := 12) rfl), good_of_word rfl⟩
theorem tw200 : lwG (.selects RX7 yX7_addStreet yX7_addStreet) := ⟨lwT7 (List.mem_of_getElem? (i := 97) rfl), good_of_word rfl⟩
theorem tw201 : lwG (.instanceMethod yX7_addStreet) := ⟨lwT7 (List.mem_of_getElem? (i := 96) rfl), good_of_word rfl⟩
theorem tw202 : lwG (.methodLink RL 162 yX7_addStreet) := ⟨lwT7 (List.mem_of_getElem? (i := 95) rfl), good_of_word rfl⟩
theorem tw203 : lwG (.code yX7_addStreet cX7_addStreet 5 (some .int)) := ⟨lwT7 (List.mem_of_getElem? (i := 98) rfl), good_of_word rfl⟩
theorem tw204 : lwG (.selects RX7 yX7_isThrown yX7_isThrown) := ⟨lwT0 (List.mem_of_getElem? (i := 20) rfl), good_of_word rfl⟩
theorem tw205 : lwG (.instanceMethod yX7_isThrown) := ⟨lwT7 (List.mem_of_getElem? (i := 118) rfl), good_of_word rfl⟩
theorem tw206 : lwG (.methodLink RX7 79 yX7_isThrown) := ⟨lwT7 (List.mem_of_getElem? (i := 116) rfl), good_of_word rfl⟩
theorem tw207 : lwG (.code yX7_isIn cX7_isIn 3 (some .boolean)) := ⟨lwT7 (List.mem_of_getElem? (i := 115) rfl), good_of_word rfl⟩
theorem tw208 : lwG (.static yX7_isIn) := ⟨lwT7 (List.mem_of_getElem? (i := 114) rfl), good_of_word rfl⟩
theorem tw209 : lwG (.methodLink RX7 57 yX7_isIn) := ⟨lwT7 (List.mem_of_getElem? (i := 113) rfl), good_of_word rfl⟩
theorem tw210 : lwG (.code yX7_isJunction cX7_isJunction 1 (some .boolean)) := ⟨lwT7 (List.mem_of_getElem? (i := 112) rfl), good_of_word rfl⟩
theorem tw211 : lwG (.static yX7_isJunction) := ⟨lwT7 (List.mem_of_getElem? (i := 111) rfl), good_of_word rfl⟩
theorem tw212 : lwG (.methodLink RX7 75 yX7_isJunction) := ⟨lwT7 (List.mem_of_getElem? (i := 110) rfl), good_of_word rfl⟩
theorem tw213 : lwG (.code yX7_streets cX7_streets 6 (some .int)) := ⟨lwT7 (List.mem_of_getElem? (i := 109) rfl), good_of_word rfl⟩
theorem tw214 : lwG (.selects RX7 yX7_streets yX7_streets) := ⟨lwT0 (List.mem_of_getElem? (i := 19) rfl), good_of_word rfl⟩
theorem tw215 : lwG (.instanceMethod yX7_streets) := ⟨lwT7 (List.mem_of_getElem? (i := 108) rfl), good_of_word rfl⟩
theorem tw216 : lwG (.methodLink RX7 94 yX7_streets) := ⟨lwT7 (List.mem_of_getElem? (i := 106) rfl), good_of_word rfl⟩
theorem tw217 : lwG (.code yX7_copies cX7_copies 5 none) := ⟨lwT7 (List.mem_of_getElem? (i := 105) rfl), good_of_word rfl⟩
theorem tw218 : lwG (.static yX7_copies) := ⟨lwT7 (List.mem_of_getElem? (i := 104) rfl), good_of_word rfl⟩
theorem tw219 : lwG (.methodLink RX7 50 yX7_copies) := ⟨lwT7 (List.mem_of_getElem? (i := 103) rfl), good_of_word rfl⟩
theorem tw220 : lwG (.fieldLink RX7 47 "SnowDispatcherModel" "thrown" "I") := ⟨lwT7 (List.mem_of_getElem? (i := 38) rfl), good_of_word rfl⟩
theorem tw221 : lwG (.code yX7_keeps cX7_keeps 1 none) := ⟨lwT7 (List.mem_of_getElem? (i := 102) rfl), good_of_word rfl⟩
theorem tw222 : lwG (.selects RX7 yX7_keeps yX7_keeps) := ⟨lwT0 (List.mem_of_getElem? (i := 18) rfl), good_of_word rfl⟩
theorem tw223 : lwG (.instanceMethod yX7_keeps) := ⟨lwT7 (List.mem_of_getElem? (i := 101) rfl), good_of_word rfl⟩
theorem tw224 : lwG (.methodLink RX7 91 yX7_keeps) := ⟨lwT7 (List.mem_of_getElem? (i := 99) rfl), good_of_word rfl⟩
theorem tw225 : lwG (.fieldLink RX7 54 "SnowDispatcherModel" "changes" "I") := ⟨lwT7 (List.mem_of_getElem? (i := 37) rfl), good_of_word rfl⟩
theorem tw226 : lwG (.code yX7_ends cX7_ends 3 (some .int)) := ⟨lwT7 (List.mem_of_getElem? (i := 141) rfl), good_of_word rfl⟩
theorem tw227 : lwG (.selects RX7 yX7_ends yX7_ends) := ⟨lwT0 (List.mem_of_getElem? (i := 24) rfl), good_of_word rfl⟩
theorem tw228 : lwG (.instanceMethod yX7_ends) := ⟨lwT7 (List.mem_of_getElem? (i := 140) rfl), good_of_word rfl⟩
theorem tw229 : lwG (.methodLink RX7 98 yX7_ends) := ⟨lwT7 (List.mem_of_getElem? (i := 138) rfl), good_of_word rfl⟩
theorem tw230 : lwG (.code yX7_sets cX7_sets 4 none) := ⟨lwT7 (List.mem_of_getElem? (i := 137) rfl), good_of_word rfl⟩
theorem tw231 : lwG (.selects RX7 yX7_sets yX7_sets) := ⟨lwT0 (List.mem_of_getElem? (i := 23) rfl), good_of_word rfl⟩
theorem tw232 : lwG (.instanceMethod yX7_sets) := ⟨lwT7 (List.mem_of_getElem? (i := 136) rfl), good_of_word rfl⟩
theorem tw233 : lwG (.methodLink RX7 87 yX7_sets) := ⟨lwT7 (List.mem_of_getElem? (i := 134) rfl), good_of_word rfl⟩
theorem tw234 : lwG (.code yX7_greater cX7_greater 2 (some .int)) := ⟨lwT7 (List.mem_of_getElem? (i := 133) rfl), good_of_word rfl⟩
theorem tw235 : lwG (.static yX7_greater) := ⟨lwT7 (List.mem_of_getElem? (i := 132) rfl), good_of_word rfl⟩
theorem tw236 : lwG (.methodLink RX7 72 yX7_greater) := ⟨lwT7 (List.mem_of_getElem? (i := 131) rfl), good_of_word rfl⟩
theorem tw237 : lwG (.code yX7_lesser cX7_lesser 2 (some .int)) := ⟨lwT7 (List.mem_of_getElem? (i := 130) rfl), good_of_word rfl⟩
theorem tw238 : lwG (.static yX7_lesser) := ⟨lwT7 (List.mem_of_getElem? (i := 129) rfl), good_of_word rfl⟩
theorem tw239 : lwG (.methodLink RX7 69 yX7_lesser) := ⟨lwT7 (List.mem_of_getElem? (i := 128) rfl), good_of_word rfl⟩
theorem tw240 : lwG (.code yX7_of cX7_of 3 (some .int)) := ⟨lwT7 (List.mem_of_getElem? (i := 127) rfl), good_of_word rfl⟩
theorem tw241 : lwG (.selects RX7 yX7_of yX7_of) := ⟨lwT0 (List.mem_of_getElem? (i := 22) rfl), good_of_word rfl⟩
theorem tw242 : lwG (.instanceMethod yX7_of) := ⟨lwT7 (List.mem_of_getElem? (i := 126) rfl), good_of_word rfl⟩
theorem tw243 : lwG (.methodLink RX7 61 yX7_of) := ⟨lwT7 (List.mem_of_getElem? (i := 124) rfl), good_of_word rfl⟩
theorem tw244 : lwG (.code yX7_joins cX7_joins 4 (some .boolean)) := ⟨lwT7 (List.mem_of_getElem? (i := 123) rfl), good_of_word rfl⟩
theorem tw245 : lwG (.selects RX7 yX7_joins yX7_joins) := ⟨lwT0 (List.mem_of_getElem? (i := 21) rfl), good_of_word rfl⟩
theorem tw246 : lwG (.instanceMethod yX7_joins) := ⟨lwT7 (List.mem_of_getElem? (i := 122) rfl), good_of_word rfl⟩
theorem tw247 : lwG (.methodLink RX7 83 yX7_joins) := ⟨lwT7 (List.mem_of_getElem? (i := 120) rfl), good_of_word rfl⟩
theorem tw248 : lwG (.code yX7_isThrown cX7_isThrown 3 (some .boolean)) := ⟨lwT7 (List.mem_of_getElem? (i := 119) rfl), good_of_word rfl⟩
theorem tw249 : lwG (.selects RX7 yX7_thrown yX7_thrown) := ⟨lwT7 (List.mem_of_getElem? (i := 93) rfl), good_of_word rfl⟩
theorem tw250 : lwG (.instanceMethod yX7_thrown) := ⟨lwT7 (List.mem_of_getElem? (i := 92) rfl), good_of_word rfl⟩
theorem tw251 : lwG (.methodLink RL 163 yX7_thrown) := ⟨lwT7 (List.mem_of_getElem? (i := 91) rfl), good_of_word rfl⟩
theorem tw252 : lwG (.code yX7_thrown cX7_thrown 1 (some .int)) := ⟨lwT7 (List.mem_of_getElem? (i := 94) rfl), good_of_word rfl⟩
theorem tw253 : lwG (.static yL_addPlough) := ⟨lwT3 (List.mem_of_getElem? (i := 102) rfl), good_of_word rfl⟩
theorem tw254 : lwG (.methodLink RL 166 yL_addPlough) := ⟨lwT3 (List.mem_of_getElem? (i := 101) rfl), good_of_word rfl⟩
theorem tw255 : lwG (.codeWith yL_addPlough cL_addPlough 4 (some .int) [(0, 9, 12, 13), (0, 9, 15, 17)]) := ⟨lwT3 (List.mem_of_getElem? (i := 103) rfl), good_of_word rfl⟩
theorem tw256 : lwG (.selects RX6 yX6_addPlough yX6_addPlough) := ⟨lwT3 (List.mem_of_getElem? (i := 106) rfl), good_of_word rfl⟩
theorem tw257 : lwG (.instanceMethod yX6_addPlough) := ⟨lwT3 (List.mem_of_getElem? (i := 105) rfl), good_of_word rfl⟩
theorem tw258 : lwG (.methodLink RL 19 yX6_addPlough) := ⟨lwT3 (List.mem_of_getElem? (i := 104) rfl), good_of_word rfl⟩
theorem tw259 : lwG (.code yX6_addPlough cX6_addPlough 3 (some .int)) := ⟨lwT3 (List.mem_of_getElem? (i := 107) rfl), good_of_word rfl⟩
theorem tw260 : lwG (.selects RX2 yX2_put yX2_put) := ⟨lwT3 (List.mem_of_getElem? (i := 114) rfl), good_of_word rfl⟩
theorem tw261 : lwG (.instanceMethod yX2_put) := ⟨lwT3 (List.mem_of_getElem? (i := 113) rfl), good_of_word rfl⟩
theorem tw262 : lwG (.methodLink RX5 82 yX2_put) := ⟨lwT3 (List.mem_of_getElem? (i := 112) rfl), good_of_word rfl⟩
theorem tw263 : lwG (.code yX5_putPlough cX5_putPlough 2 (some .int)) := ⟨lwT3 (List.mem_of_getElem? (i := 111) rfl), good_of_word rfl⟩
theorem tw264 : lwG (.selects RX5 yX5_putPlough yX5_putPlough) := ⟨lwT3 (List.mem_of_getElem? (i := 110) rfl), good_of_word rfl⟩
theorem tw265 : lwG (.instanceMethod yX5_putPlough) := ⟨lwT3 (List.mem_of_getElem? (i := 109) rfl), good_of_word rfl⟩
theorem tw266 : lwG (.methodLink RX6 91 yX5_putPlough) := ⟨lwT3 (List.mem_of_getElem? (i := 108) rfl), good_of_word rfl⟩
theorem tw267 : lwG (.code yX2_put cX2_put 3 (some .int)) := ⟨lwT3 (List.mem_of_getElem? (i := 115) rfl), good_of_word rfl⟩
theorem tw268 : lwG (.selects RX7 yX7_addPlough yX7_addPlough) := ⟨lwT7 (List.mem_of_getElem? (i := 144) rfl), good_of_word rfl⟩
theorem tw269 : lwG (.instanceMethod yX7_addPlough) := ⟨lwT7 (List.mem_of_getElem? (i := 143) rfl), good_of_word rfl⟩
theorem tw270 : lwG (.methodLink RL 169 yX7_addPlough) := ⟨lwT7 (List.mem_of_getElem? (i := 142) rfl), good_of_word rfl⟩
theorem tw271 : lwG (.code yX7_addPlough cX7_addPlough 2 (some .int)) := ⟨lwT7 (List.mem_of_getElem? (i := 145) rfl), good_of_word rfl⟩
theorem tw272 : lwG (.code yX7_ploughs cX7_ploughs 2 (some .int)) := ⟨lwT7 (List.mem_of_getElem? (i := 149) rfl), good_of_word rfl⟩
theorem tw273 : lwG (.selects RX7 yX7_ploughs yX7_ploughs) := ⟨lwT0 (List.mem_of_getElem? (i := 25) rfl), good_of_word rfl⟩
theorem tw274 : lwG (.instanceMethod yX7_ploughs) := ⟨lwT7 (List.mem_of_getElem? (i := 148) rfl), good_of_word rfl⟩
theorem tw275 : lwG (.methodLink RX7 104 yX7_ploughs) := ⟨lwT7 (List.mem_of_getElem? (i := 146) rfl), good_of_word rfl⟩
theorem tw276 : lwG (.code yX7_setsPlough cX7_setsPlough 4 none) := ⟨lwT7 (List.mem_of_getElem? (i := 153) rfl), good_of_word rfl⟩
theorem tw277 : lwG (.selects RX7 yX7_setsPlough yX7_setsPlough) := ⟨lwT0 (List.mem_of_getElem? (i := 26) rfl), good_of_word rfl⟩
theorem tw278 : lwG (.instanceMethod yX7_setsPlough) := ⟨lwT7 (List.mem_of_getElem? (i := 152) rfl), good_of_word rfl⟩
theorem tw279 : lwG (.methodLink RX7 101 yX7_setsPlough) := ⟨lwT7 (List.mem_of_getElem? (i := 150) rfl), good_of_word rfl⟩
theorem tw280 : lwG (.static yL_order) := ⟨lwT3 (List.mem_of_getElem? (i := 118) rfl), good_of_word rfl⟩
theorem tw281 : lwG (.methodLink RL 170 yL_order) := ⟨lwT3 (List.mem_of_getElem? (i := 117) rfl), good_of_word rfl⟩
theorem tw282 : lwG (.codeWith yL_order cL_order 5 (some .int) [(0, 10, 13, 13), (0, 10, 17, 17)]) := ⟨lwT3 (List.mem_of_getElem? (i := 119) rfl), good_of_word rfl⟩
theorem tw283 : lwG (.selects RX6 yX6_order yX6_order) := ⟨lwT3 (List.mem_of_getElem? (i := 122) rfl), good_of_word rfl⟩
theorem tw284 : lwG (.instanceMethod yX6_order) := ⟨lwT3 (List.mem_of_getElem? (i := 121) rfl), good_of_word rfl⟩
theorem tw285 : lwG (.methodLink RL 23 yX6_order) := ⟨lwT3 (List.mem_of_getElem? (i := 120) rfl), good_of_word rfl⟩
theorem tw286 : lwG (.code yX6_order cX6_order 4 (some .int)) := ⟨lwT3 (List.mem_of_getElem? (i := 123) rfl), good_of_word rfl⟩
theorem tw287 : lwG (.instanceMethod yX2_append) := ⟨lwT3 (List.mem_of_getElem? (i := 133) rfl), good_of_word rfl⟩
theorem tw288 : lwG (.methodLink RX5 88 yX2_append) := ⟨lwT3 (List.mem_of_getElem? (i := 132) rfl), good_of_word rfl⟩
theorem tw289 : lwG (.code yX4_has cX4_has 2 (some .boolean)) := ⟨lwT3 (List.mem_of_getElem? (i := 131) rfl), good_of_word rfl⟩
theorem tw290 : lwG (.selects RX4 yX4_has yX4_has) := ⟨lwT3 (List.mem_of_getElem? (i := 130) rfl), good_of_word rfl⟩
theorem tw291 : lwG (.instanceMethod yX4_has) := ⟨lwT3 (List.mem_of_getElem? (i := 129) rfl), good_of_word rfl⟩
theorem tw292 : lwG (.methodLink RX5 85 yX4_has) := ⟨lwT3 (List.mem_of_getElem? (i := 128) rfl), good_of_word rfl⟩
theorem tw293 : lwG (.code yX5_appendOrder cX5_appendOrder 3 (some .int)) := ⟨lwT3 (List.mem_of_getElem? (i := 127) rfl), good_of_word rfl⟩
theorem tw294 : lwG (.selects RX5 yX5_appendOrder yX5_appendOrder) := ⟨lwT3 (List.mem_of_getElem? (i := 126) rfl), good_of_word rfl⟩
theorem tw295 : lwG (.instanceMethod yX5_appendOrder) := ⟨lwT3 (List.mem_of_getElem? (i := 125) rfl), good_of_word rfl⟩
theorem tw296 : lwG (.methodLink RX6 97 yX5_appendOrder) := ⟨lwT3 (List.mem_of_getElem? (i := 124) rfl), good_of_word rfl⟩
theorem tw297 : lwG (.code yX2_has cX2_has 2 (some .boolean)) := ⟨lwT3 (List.mem_of_getElem? (i := 139) rfl), good_of_word rfl⟩
theorem tw298 : lwG (.selects RX2 yX2_has yX2_has) := ⟨lwT3 (List.mem_of_getElem? (i := 138) rfl), good_of_word rfl⟩
theorem tw299 : lwG (.instanceMethod yX2_has) := ⟨lwT3 (List.mem_of_getElem? (i := 137) rfl), good_of_word rfl⟩
theorem tw300 : lwG (.methodLink RX2 37 yX2_has) := ⟨lwT3 (List.mem_of_getElem? (i := 136) rfl), good_of_word rfl⟩
theorem tw301 : lwG (.code yX2_append cX2_append 4 (some .int)) := ⟨lwT3 (List.mem_of_getElem? (i := 135) rfl), good_of_word rfl⟩
theorem tw302 : lwG (.selects RX2 yX2_append yX2_append) := ⟨lwT3 (List.mem_of_getElem? (i := 134) rfl), good_of_word rfl⟩
theorem tw303 : lwG (.selects RX7 yX7_order yX7_order) := ⟨lwT7 (List.mem_of_getElem? (i := 156) rfl), good_of_word rfl⟩
theorem tw304 : lwG (.instanceMethod yX7_order) := ⟨lwT7 (List.mem_of_getElem? (i := 155) rfl), good_of_word rfl⟩
theorem tw305 : lwG (.methodLink RL 173 yX7_order) := ⟨lwT7 (List.mem_of_getElem? (i := 154) rfl), good_of_word rfl⟩
theorem tw306 : lwG (.code yX7_order cX7_order 3 (some .int)) := ⟨lwT7 (List.mem_of_getElem? (i := 157) rfl), good_of_word rfl⟩
theorem tw307 : lwG (.instanceMethod yX7_isStreet) := ⟨lwT7 (List.mem_of_getElem? (i := 168) rfl), good_of_word rfl⟩
theorem tw308 : lwG (.methodLink RX7 110 yX7_isStreet) := ⟨lwT7 (List.mem_of_getElem? (i := 166) rfl), good_of_word rfl⟩
theorem tw309 : lwG (.code yX7_isPlough cX7_isPlough 2 (some .boolean)) := ⟨lwT7 (List.mem_of_getElem? (i := 165) rfl), good_of_word rfl⟩
theorem tw310 : lwG (.selects RX7 yX7_isPlough yX7_isPlough) := ⟨lwT0 (List.mem_of_getElem? (i := 28) rfl), good_of_word rfl⟩
theorem tw311 : lwG (.instanceMethod yX7_isPlough) := ⟨lwT7 (List.mem_of_getElem? (i := 164) rfl), good_of_word rfl⟩
theorem tw312 : lwG (.methodLink RX7 107 yX7_isPlough) := ⟨lwT7 (List.mem_of_getElem? (i := 162) rfl), good_of_word rfl⟩
theorem tw313 : lwG (.code yX7_orders cX7_orders 4 (some .int)) := ⟨lwT7 (List.mem_of_getElem? (i := 161) rfl), good_of_word rfl⟩
theorem tw314 : lwG (.selects RX7 yX7_orders yX7_orders) := ⟨lwT0 (List.mem_of_getElem? (i := 27) rfl), good_of_word rfl⟩
theorem tw315 : lwG (.instanceMethod yX7_orders) := ⟨lwT7 (List.mem_of_getElem? (i := 160) rfl), good_of_word rfl⟩
theorem tw316 : lwG (.methodLink RX7 116 yX7_orders) := ⟨lwT7 (List.mem_of_getElem? (i := 158) rfl), good_of_word rfl⟩
theorem tw317 : lwG (.code yX7_ofPlough cX7_ofPlough 3 (some .int)) := ⟨lwT7 (List.mem_of_getElem? (i := 173) rfl), good_of_word rfl⟩
theorem tw318 : lwG (.selects RX7 yX7_ofPlough yX7_ofPlough) := ⟨lwT0 (List.mem_of_getElem? (i := 30) rfl), good_of_word rfl⟩
theorem tw319 : lwG (.instanceMethod yX7_ofPlough) := ⟨lwT7 (List.mem_of_getElem? (i := 172) rfl), good_of_word rfl⟩
theorem tw320 : lwG (.methodLink RX7 113 yX7_ofPlough) := ⟨lwT7 (List.mem_of_getElem? (i := 170) rfl), good_of_word rfl⟩
theorem tw321 : lwG (.code yX7_isStreet cX7_isStreet 2 (some .boolean)) := ⟨lwT7 (List.mem_of_getElem? (i := 169) rfl), good_of_word rfl⟩
theorem tw322 : lwG (.selects RX7 yX7_isStreet yX7_isStreet) := ⟨lwT0 (List.mem_of_getElem? (i := 29) rfl), good_of_word rfl⟩
theorem tw323 : lwG (.static yL_cancelOrder) := ⟨lwT3 (List.mem_of_getElem? (i := 143) rfl), good_of_word rfl⟩
theorem tw324 : lwG (.methodLink RL 174 yL_cancelOrder) := ⟨lwT3 (List.mem_of_getElem? (i := 142) rfl), good_of_word rfl⟩
theorem tw325 : lwG (.codeWith yL_cancelOrder cL_cancelOrder 4 (some .int) [(0, 9, 12, 13), (0, 9, 15, 30)]) := ⟨lwT3 (List.mem_of_getElem? (i := 144) rfl), good_of_word rfl⟩
theorem tw326 : lwG (.selects RX6 yX6_cancelOrder yX6_cancelOrder) := ⟨lwT3 (List.mem_of_getElem? (i := 148) rfl), good_of_word rfl⟩
theorem tw327 : lwG (.instanceMethod yX6_cancelOrder) := ⟨lwT3 (List.mem_of_getElem? (i := 147) rfl), good_of_word rfl⟩
theorem tw328 : lwG (.methodLink RL 27 yX6_cancelOrder) := ⟨lwT3 (List.mem_of_getElem? (i := 146) rfl), good_of_word rfl⟩
theorem tw329 : lwG (.classLink RL 30 "java/util/NoSuchElementException") := ⟨lwT3 (List.mem_of_getElem? (i := 145) rfl), good_of_word rfl⟩
theorem tw330 : lwG (.code yX6_cancelOrder cX6_cancelOrder 3 (some .int)) := ⟨lwT3 (List.mem_of_getElem? (i := 149) rfl), good_of_word rfl⟩
theorem tw331 : lwG (.initialized "java/util/NoSuchElementException") := ⟨lwT1 (List.mem_of_getElem? (i := 22) rfl), good_of_word rfl⟩
theorem tw332 : lwG (.classLink RX6 110 "java/util/NoSuchElementException") := ⟨lwT3 (List.mem_of_getElem? (i := 163) rfl), good_of_word rfl⟩
theorem tw333 : lwG (.code yX2_removeLast cX2_removeLast 3 (some .int)) := ⟨lwT3 (List.mem_of_getElem? (i := 157) rfl), good_of_word rfl⟩
theorem tw334 : lwG (.selects RX2 yX2_removeLast yX2_removeLast) := ⟨lwT3 (List.mem_of_getElem? (i := 156) rfl), good_of_word rfl⟩
theorem tw335 : lwG (.instanceMethod yX2_removeLast) := ⟨lwT3 (List.mem_of_getElem? (i := 155) rfl), good_of_word rfl⟩
theorem tw336 : lwG (.methodLink RX5 91 yX2_removeLast) := ⟨lwT3 (List.mem_of_getElem? (i := 154) rfl), good_of_word rfl⟩
theorem tw337 : lwG (.code yX5_removeOrder cX5_removeOrder 2 (some .int)) := ⟨lwT3 (List.mem_of_getElem? (i := 153) rfl), good_of_word rfl⟩
theorem tw338 : lwG (.selects RX5 yX5_removeOrder yX5_removeOrder) := ⟨lwT3 (List.mem_of_getElem? (i := 152) rfl), good_of_word rfl⟩
theorem tw339 : lwG (.instanceMethod yX5_removeOrder) := ⟨lwT3 (List.mem_of_getElem? (i := 151) rfl), good_of_word rfl⟩
theorem tw340 : lwG (.methodLink RX6 105 yX5_removeOrder) := ⟨lwT3 (List.mem_of_getElem? (i := 150) rfl), good_of_word rfl⟩
theorem tw341 : lwG (.code yX2_waitingAt cX2_waitingAt 3 (some .int)) := ⟨lwT3 (List.mem_of_getElem? (i := 161) rfl), good_of_word rfl⟩
theorem tw342 : lwG (.selects RX2 yX2_waitingAt yX2_waitingAt) := ⟨lwT3 (List.mem_of_getElem? (i := 160) rfl), good_of_word rfl⟩
theorem tw343 : lwG (.instanceMethod yX2_waitingAt) := ⟨lwT3 (List.mem_of_getElem? (i := 159) rfl), good_of_word rfl⟩
theorem tw344 : lwG (.methodLink RX2 41 yX2_waitingAt) := ⟨lwT3 (List.mem_of_getElem? (i := 158) rfl), good_of_word rfl⟩
theorem tw345 : lwG (.selects RX7 yX7_cancelOrder yX7_cancelOrder) := ⟨lwT7 (List.mem_of_getElem? (i := 176) rfl), good_of_word rfl⟩
theorem tw346 : lwG (.instanceMethod yX7_cancelOrder) := ⟨lwT7 (List.mem_of_getElem? (i := 175) rfl), good_of_word rfl⟩
theorem tw347 : lwG (.methodLink RL 176 yX7_cancelOrder) := ⟨lwT7 (List.mem_of_getElem? (i := 174) rfl), good_of_word rfl⟩
theorem tw348 : lwG (.code yX7_cancelOrder cX7_cancelOrder 2 (some .int)) := ⟨lwT7 (List.mem_of_getElem? (i := 177) rfl), good_of_word rfl⟩
theorem tw349 : lwG (.code yX7_cancels cX7_cancels 4 (some .int)) := ⟨lwT7 (List.mem_of_getElem? (i := 181) rfl), good_of_word rfl⟩
theorem tw350 : lwG (.selects RX7 yX7_cancels yX7_cancels) := ⟨lwT0 (List.mem_of_getElem? (i := 31) rfl), good_of_word rfl⟩
theorem tw351 : lwG (.instanceMethod yX7_cancels) := ⟨lwT7 (List.mem_of_getElem? (i := 180) rfl), good_of_word rfl⟩
theorem tw352 : lwG (.methodLink RX7 119 yX7_cancels) := ⟨lwT7 (List.mem_of_getElem? (i := 178) rfl), good_of_word rfl⟩
theorem tw353 : lwG (.static yL_salt) := ⟨lwT3 (List.mem_of_getElem? (i := 180) rfl), good_of_word rfl⟩
theorem tw354 : lwG (.methodLink RL 177 yL_salt) := ⟨lwT3 (List.mem_of_getElem? (i := 179) rfl), good_of_word rfl⟩
theorem tw355 : lwG (.codeWith yL_salt cL_salt 4 (some .int) [(0, 9, 12, 13), (0, 9, 15, 35), (0, 9, 18, 17)]) := ⟨lwT3 (List.mem_of_getElem? (i := 181) rfl), good_of_word rfl⟩
theorem tw356 : lwG (.selects RX6 yX6_salt yX6_salt) := ⟨lwT3 (List.mem_of_getElem? (i := 185) rfl), good_of_word rfl⟩
theorem tw357 : lwG (.instanceMethod yX6_salt) := ⟨lwT3 (List.mem_of_getElem? (i := 184) rfl), good_of_word rfl⟩
theorem tw358 : lwG (.methodLink RL 32 yX6_salt) := ⟨lwT3 (List.mem_of_getElem? (i := 183) rfl), good_of_word rfl⟩
theorem tw359 : lwG (.classLink RL 35 "java/lang/UnsupportedOperationException") := ⟨lwT3 (List.mem_of_getElem? (i := 182) rfl), good_of_word rfl⟩
theorem tw360 : lwG (.code yX6_salt cX6_salt 3 (some .int)) := ⟨lwT3 (List.mem_of_getElem? (i := 186) rfl), good_of_word rfl⟩
theorem tw361 : lwG (.initialized "java/lang/UnsupportedOperationException") := ⟨lwT1 (List.mem_of_getElem? (i := 23) rfl), good_of_word rfl⟩
theorem tw362 : lwG (.classLink RX6 120 "java/lang/UnsupportedOperationException") := ⟨lwT3 (List.mem_of_getElem? (i := 197) rfl), good_of_word rfl⟩
theorem tw363 : lwG (.fieldLink RX5 101 "SnowDispatcher$Streets" "saltEnd" "[I") := ⟨lwT1 (List.mem_of_getElem? (i := 88) rfl), good_of_word rfl⟩
theorem tw364 : lwG (.fieldLink RX5 97 "SnowDispatcher$Streets" "size" "[I") := ⟨lwT1 (List.mem_of_getElem? (i := 82) rfl), good_of_word rfl⟩
theorem tw365 : lwG (.code yX5_spreadSalt cX5_spreadSalt 2 (some .int)) := ⟨lwT3 (List.mem_of_getElem? (i := 190) rfl), good_of_word rfl⟩
theorem tw366 : lwG (.selects RX5 yX5_spreadSalt yX5_spreadSalt) := ⟨lwT3 (List.mem_of_getElem? (i := 189) rfl), good_of_word rfl⟩
theorem tw367 : lwG (.instanceMethod yX5_spreadSalt) := ⟨lwT3 (List.mem_of_getElem? (i := 188) rfl), good_of_word rfl⟩
theorem tw368 : lwG (.methodLink RX6 115 yX5_spreadSalt) := ⟨lwT3 (List.mem_of_getElem? (i := 187) rfl), good_of_word rfl⟩
theorem tw369 : lwG (.methodLink RX4 47 yX4_has) := ⟨lwT3 (List.mem_of_getElem? (i := 195) rfl), good_of_word rfl⟩
theorem tw370 : lwG (.code yX4_saltLeft cX4_saltLeft 3 (some .int)) := ⟨lwT3 (List.mem_of_getElem? (i := 194) rfl), good_of_word rfl⟩
theorem tw371 : lwG (.selects RX4 yX4_saltLeft yX4_saltLeft) := ⟨lwT3 (List.mem_of_getElem? (i := 193) rfl), good_of_word rfl⟩
theorem tw372 : lwG (.instanceMethod yX4_saltLeft) := ⟨lwT3 (List.mem_of_getElem? (i := 192) rfl), good_of_word rfl⟩
theorem tw373 : lwG (.methodLink RX5 94 yX4_saltLeft) := ⟨lwT3 (List.mem_of_getElem? (i := 191) rfl), good_of_word rfl⟩
theorem tw374 : lwG (.selects RX7 yX7_salt yX7_salt) := ⟨lwT7 (List.mem_of_getElem? (i := 184) rfl), good_of_word rfl⟩
theorem tw375 : lwG (.instanceMethod yX7_salt) := ⟨lwT7 (List.mem_of_getElem? (i := 183) rfl), good_of_word rfl⟩
theorem tw376 : lwG (.methodLink RL 179 yX7_salt) := ⟨lwT7 (List.mem_of_getElem? (i := 182) rfl), good_of_word rfl⟩
theorem tw377 : lwG (.code yX7_salt cX7_salt 2 (some .int)) := ⟨lwT7 (List.mem_of_getElem? (i := 185) rfl), good_of_word rfl⟩
theorem tw378 : lwG (.code yX7_salts cX7_salts 2 (some .int)) := ⟨lwT7 (List.mem_of_getElem? (i := 189) rfl), good_of_word rfl⟩
theorem tw379 : lwG (.selects RX7 yX7_salts yX7_salts) := ⟨lwT0 (List.mem_of_getElem? (i := 32) rfl), good_of_word rfl⟩
theorem tw380 : lwG (.instanceMethod yX7_salts) := ⟨lwT7 (List.mem_of_getElem? (i := 188) rfl), good_of_word rfl⟩
theorem tw381 : lwG (.methodLink RX7 125 yX7_salts) := ⟨lwT7 (List.mem_of_getElem? (i := 186) rfl), good_of_word rfl⟩
theorem tw382 : lwG (.code yX7_salted cX7_salted 2 (some .boolean)) := ⟨lwT7 (List.mem_of_getElem? (i := 193) rfl), good_of_word rfl⟩
theorem tw383 : lwG (.selects RX7 yX7_salted yX7_salted) := ⟨lwT0 (List.mem_of_getElem? (i := 33) rfl), good_of_word rfl⟩
theorem tw384 : lwG (.instanceMethod yX7_salted) := ⟨lwT7 (List.mem_of_getElem? (i := 192) rfl), good_of_word rfl⟩
theorem tw385 : lwG (.methodLink RX7 122 yX7_salted) := ⟨lwT7 (List.mem_of_getElem? (i := 190) rfl), good_of_word rfl⟩
theorem tw386 : lwG (.static yL_loadSalt) := ⟨lwT3 (List.mem_of_getElem? (i := 215) rfl), good_of_word rfl⟩
theorem tw387 : lwG (.methodLink RL 180 yL_loadSalt) := ⟨lwT3 (List.mem_of_getElem? (i := 214) rfl), good_of_word rfl⟩
theorem tw388 : lwG (.codeWith yL_loadSalt cL_loadSalt 4 (some .int) [(0, 9, 12, 15), (0, 9, 15, 35)]) := ⟨lwT3 (List.mem_of_getElem? (i := 216) rfl), good_of_word rfl⟩
theorem tw389 : lwG (.selects RX6 yX6_loadSalt yX6_loadSalt) := ⟨lwT3 (List.mem_of_getElem? (i := 219) rfl), good_of_word rfl⟩
theorem tw390 : lwG (.instanceMethod yX6_loadSalt) := ⟨lwT3 (List.mem_of_getElem? (i := 218) rfl), good_of_word rfl⟩
theorem tw391 : lwG (.methodLink RL 37 yX6_loadSalt) := ⟨lwT3 (List.mem_of_getElem? (i := 217) rfl), good_of_word rfl⟩
theorem tw392 : lwG (.code yX6_loadSalt cX6_loadSalt 3 (some .int)) := ⟨lwT3 (List.mem_of_getElem? (i := 220) rfl), good_of_word rfl⟩
theorem tw393 : lwG (.code yX5_fillStore cX5_fillStore 2 (some .int)) := ⟨lwT3 (List.mem_of_getElem? (i := 224) rfl), good_of_word rfl⟩
theorem tw394 : lwG (.selects RX5 yX5_fillStore yX5_fillStore) := ⟨lwT3 (List.mem_of_getElem? (i := 223) rfl), good_of_word rfl⟩
theorem tw395 : lwG (.instanceMethod yX5_fillStore) := ⟨lwT3 (List.mem_of_getElem? (i := 222) rfl), good_of_word rfl⟩
theorem tw396 : lwG (.methodLink RX6 127 yX5_fillStore) := ⟨lwT3 (List.mem_of_getElem? (i := 221) rfl), good_of_word rfl⟩
theorem tw397 : lwG (.selects RX7 yX7_loadSalt yX7_loadSalt) := ⟨lwT7 (List.mem_of_getElem? (i := 196) rfl), good_of_word rfl⟩
theorem tw398 : lwG (.instanceMethod yX7_loadSalt) := ⟨lwT7 (List.mem_of_getElem? (i := 195) rfl), good_of_word rfl⟩
theorem tw399 : lwG (.methodLink RL 182 yX7_loadSalt) := ⟨lwT7 (List.mem_of_getElem? (i := 194) rfl), good_of_word rfl⟩
theorem tw400 : lwG (.code yX7_loadSalt cX7_loadSalt 2 (some .int)) := ⟨lwT7 (List.mem_of_getElem? (i := 197) rfl), good_of_word rfl⟩
theorem tw401 : lwG (.code yX7_loads cX7_loads 2 (some .int)) := ⟨lwT7 (List.mem_of_getElem? (i := 201) rfl), good_of_word rfl⟩
theorem tw402 : lwG (.selects RX7 yX7_loads yX7_loads) := ⟨lwT0 (List.mem_of_getElem? (i := 34) rfl), good_of_word rfl⟩
theorem tw403 : lwG (.instanceMethod yX7_loads) := ⟨lwT7 (List.mem_of_getElem? (i := 200) rfl), good_of_word rfl⟩
theorem tw404 : lwG (.methodLink RX7 128 yX7_loads) := ⟨lwT7 (List.mem_of_getElem? (i := 198) rfl), good_of_word rfl⟩
theorem tw405 : lwG (.static yL_setSnowfall) := ⟨lwT3 (List.mem_of_getElem? (i := 228) rfl), good_of_word rfl⟩
theorem tw406 : lwG (.methodLink RL 183 yL_setSnowfall) := ⟨lwT3 (List.mem_of_getElem? (i := 227) rfl), good_of_word rfl⟩
theorem tw407 : lwG (.codeWith yL_setSnowfall cL_setSnowfall 4 (some .int) [(0, 9, 12, 15)]) := ⟨lwT3 (List.mem_of_getElem? (i := 229) rfl), good_of_word rfl⟩
theorem tw408 : lwG (.selects RX6 yX6_setSnowfall yX6_setSnowfall) := ⟨lwT3 (List.mem_of_getElem? (i := 232) rfl), good_of_word rfl⟩
theorem tw409 : lwG (.instanceMethod yX6_setSnowfall) := ⟨lwT3 (List.mem_of_getElem? (i := 231) rfl), good_of_word rfl⟩
theorem tw410 : lwG (.methodLink RL 40 yX6_setSnowfall) := ⟨lwT3 (List.mem_of_getElem? (i := 230) rfl), good_of_word rfl⟩
theorem tw411 : lwG (.code yX6_setSnowfall cX6_setSnowfall 3 (some .int)) := ⟨lwT3 (List.mem_of_getElem? (i := 233) rfl), good_of_word rfl⟩
theorem tw412 : lwG (.code yX5_changeRate cX5_changeRate 3 (some .int)) := ⟨lwT3 (List.mem_of_getElem? (i := 237) rfl), good_of_word rfl⟩
theorem tw413 : lwG (.selects RX5 yX5_changeRate yX5_changeRate) := ⟨lwT3 (List.mem_of_getElem? (i := 236) rfl), good_of_word rfl⟩
theorem tw414 : lwG (.instanceMethod yX5_changeRate) := ⟨lwT3 (List.mem_of_getElem? (i := 235) rfl), good_of_word rfl⟩
theorem tw415 : lwG (.methodLink RX6 134 yX5_changeRate) := ⟨lwT3 (List.mem_of_getElem? (i := 234) rfl), good_of_word rfl⟩
theorem tw416 : lwG (.selects RX7 yX7_setSnowfall yX7_setSnowfall) := ⟨lwT7 (List.mem_of_getElem? (i := 204) rfl), good_of_word rfl⟩
theorem tw417 : lwG (.instanceMethod yX7_setSnowfall) := ⟨lwT7 (List.mem_of_getElem? (i := 203) rfl), good_of_word rfl⟩
theorem tw418 : lwG (.methodLink RL 185 yX7_setSnowfall) := ⟨lwT7 (List.mem_of_getElem? (i := 202) rfl), good_of_word rfl⟩
theorem tw419 : lwG (.code yX7_setSnowfall cX7_setSnowfall 2 (some .int)) := ⟨lwT7 (List.mem_of_getElem? (i := 205) rfl), good_of_word rfl⟩
theorem tw420 : lwG (.code yX7_tells cX7_tells 4 (some .int)) := ⟨lwT7 (List.mem_of_getElem? (i := 209) rfl), good_of_word rfl⟩
theorem tw421 : lwG (.selects RX7 yX7_tells yX7_tells) := ⟨lwT0 (List.mem_of_getElem? (i := 35) rfl), good_of_word rfl⟩
theorem tw422 : lwG (.instanceMethod yX7_tells) := ⟨lwT7 (List.mem_of_getElem? (i := 208) rfl), good_of_word rfl⟩
theorem tw423 : lwG (.methodLink RX7 131 yX7_tells) := ⟨lwT7 (List.mem_of_getElem? (i := 206) rfl), good_of_word rfl⟩
theorem tw424 : lwG (.static yL_setWind) := ⟨lwT4 (List.mem_of_getElem? (i := 0) rfl), good_of_word rfl⟩
theorem tw425 : lwG (.methodLink RL 186 yL_setWind) := ⟨lwT3 (List.mem_of_getElem? (i := 239) rfl), good_of_word rfl⟩
theorem tw426 : lwG (.codeWith yL_setWind cL_setWind 4 (some .int) [(0, 9, 12, 15)]) := ⟨lwT4 (List.mem_of_getElem? (i := 1) rfl), good_of_word rfl⟩
theorem tw427 : lwG (.selects RX6 yX6_setWind yX6_setWind) := ⟨lwT4 (List.mem_of_getElem? (i := 4) rfl), good_of_word rfl⟩
theorem tw428 : lwG (.instanceMethod yX6_setWind) := ⟨lwT4 (List.mem_of_getElem? (i := 3) rfl), good_of_word rfl⟩
theorem tw429 : lwG (.methodLink RL 43 yX6_setWind) := ⟨lwT4 (List.mem_of_getElem? (i := 2) rfl), good_of_word rfl⟩
theorem tw430 : lwG (.code yX6_setWind cX6_setWind 3 (some .int)) := ⟨lwT4 (List.mem_of_getElem? (i := 5) rfl), good_of_word rfl⟩
theorem tw431 : lwG (.code yX5_changeForce cX5_changeForce 3 (some .int)) := ⟨lwT4 (List.mem_of_getElem? (i := 9) rfl), good_of_word rfl⟩
theorem tw432 : lwG (.selects RX5 yX5_changeForce yX5_changeForce) := ⟨lwT4 (List.mem_of_getElem? (i := 8) rfl), good_of_word rfl⟩
theorem tw433 : lwG (.instanceMethod yX5_changeForce) := ⟨lwT4 (List.mem_of_getElem? (i := 7) rfl), good_of_word rfl⟩
theorem tw434 : lwG (.methodLink RX6 139 yX5_changeForce) := ⟨lwT4 (List.mem_of_getElem? (i := 6) rfl), good_of_word rfl⟩
theorem tw435 : lwG (.selects RX7 yX7_setWind yX7_setWind) := ⟨lwT7 (List.mem_of_getElem? (i := 212) rfl), good_of_word rfl⟩
theorem tw436 : lwG (.instanceMethod yX7_setWind) := ⟨lwT7 (List.mem_of_getElem? (i := 211) rfl), good_of_word rfl⟩
theorem tw437 : lwG (.methodLink RL 188 yX7_setWind) := ⟨lwT7 (List.mem_of_getElem? (i := 210) rfl), good_of_word rfl⟩
theorem tw438 : lwG (.code yX7_setWind cX7_setWind 2 (some .int)) := ⟨lwT7 (List.mem_of_getElem? (i := 213) rfl), good_of_word rfl⟩
theorem tw439 : lwG (.static yL_advance) := ⟨lwT4 (List.mem_of_getElem? (i := 12) rfl), good_of_word rfl⟩
theorem tw440 : lwG (.methodLink RL 189 yL_advance) := ⟨lwT4 (List.mem_of_getElem? (i := 11) rfl), good_of_word rfl⟩
theorem tw441 : lwG (.codeWith yL_advance cL_advance 4 (some .int) [(0, 9, 12, 15)]) := ⟨lwT4 (List.mem_of_getElem? (i := 13) rfl), good_of_word rfl⟩
theorem tw442 : lwG (.selects RX6 yX6_advance yX6_advance) := ⟨lwT4 (List.mem_of_getElem? (i := 16) rfl), good_of_word rfl⟩
theorem tw443 : lwG (.instanceMethod yX6_advance) := ⟨lwT4 (List.mem_of_getElem? (i := 15) rfl), good_of_word rfl⟩
theorem tw444 : lwG (.methodLink RL 46 yX6_advance) := ⟨lwT4 (List.mem_of_getElem? (i := 14) rfl), good_of_word rfl⟩
theorem tw445 : lwG (.code yX6_advance cX6_advance 3 (some .int)) := ⟨lwT4 (List.mem_of_getElem? (i := 17) rfl), good_of_word rfl⟩
theorem tw446 : lwG (.code yX2_canBegin cX2_canBegin 2 (some .boolean)) := ⟨lwT4 (List.mem_of_getElem? (i := 25) rfl), good_of_word rfl⟩
theorem tw447 : lwG (.selects RX2 yX2_canBegin yX2_canBegin) := ⟨lwT4 (List.mem_of_getElem? (i := 24) rfl), good_of_word rfl⟩
theorem tw448 : lwG (.instanceMethod yX2_canBegin) := ⟨lwT4 (List.mem_of_getElem? (i := 23) rfl), good_of_word rfl⟩
theorem tw449 : lwG (.methodLink RX5 107 yX2_canBegin) := ⟨lwT4 (List.mem_of_getElem? (i := 22) rfl), good_of_word rfl⟩
theorem tw450 : lwG (.fieldLink RX5 104 "SnowDispatcher$Ploughs" "count" "I") := ⟨lwT1 (List.mem_of_getElem? (i := 133) rfl), good_of_word rfl⟩
theorem tw451 : lwG (.code yX5_passMinutes cX5_passMinutes 5 (some .int)) := ⟨lwT4 (List.mem_of_getElem? (i := 21) rfl), good_of_word rfl⟩
theorem tw452 : lwG (.selects RX5 yX5_passMinutes yX5_passMinutes) := ⟨lwT4 (List.mem_of_getElem? (i := 20) rfl), good_of_word rfl⟩
theorem tw453 : lwG (.instanceMethod yX5_passMinutes) := ⟨lwT4 (List.mem_of_getElem? (i := 19) rfl), good_of_word rfl⟩
theorem tw454 : lwG (.methodLink RX6 144 yX5_passMinutes) := ⟨lwT4 (List.mem_of_getElem? (i := 18) rfl), good_of_word rfl⟩
theorem tw455 : lwG (.fieldLink RX5 146 "SnowDispatcher$Ploughs" "place" "[I") := ⟨lwT1 (List.mem_of_getElem? (i := 123) rfl), good_of_word rfl⟩
theorem tw456 : lwG (.code yX5_minutesFor cX5_minutesFor 4 (some .int)) := ⟨lwT4 (List.mem_of_getElem? (i := 37) rfl), good_of_word rfl⟩
theorem tw457 : lwG (.selects RX5 yX5_minutesFor yX5_minutesFor) := ⟨lwT4 (List.mem_of_getElem? (i := 36) rfl), good_of_word rfl⟩
theorem tw458 : lwG (.instanceMethod yX5_minutesFor) := ⟨lwT4 (List.mem_of_getElem? (i := 35) rfl), good_of_word rfl⟩
theorem tw459 : lwG (.methodLink RX5 126 yX5_minutesFor) := ⟨lwT4 (List.mem_of_getElem? (i := 34) rfl), good_of_word rfl⟩
theorem tw460 : lwG (.code yX2_removeFirst cX2_removeFirst 5 (some .int)) := ⟨lwT4 (List.mem_of_getElem? (i := 33) rfl), good_of_word rfl⟩
theorem tw461 : lwG (.selects RX2 yX2_removeFirst yX2_removeFirst) := ⟨lwT4 (List.mem_of_getElem? (i := 32) rfl), good_of_word rfl⟩
theorem tw462 : lwG (.instanceMethod yX2_removeFirst) := ⟨lwT4 (List.mem_of_getElem? (i := 31) rfl), good_of_word rfl⟩
theorem tw463 : lwG (.methodLink RX5 123 yX2_removeFirst) := ⟨lwT4 (List.mem_of_getElem? (i := 30) rfl), good_of_word rfl⟩
theorem tw464 : lwG (.fieldLink RX5 133 "SnowDispatcher$Streets" "higher" "[I") := ⟨lwT1 (List.mem_of_getElem? (i := 76) rfl), good_of_word rfl⟩
theorem tw465 : lwG (.fieldLink RX5 130 "SnowDispatcher$Streets" "lower" "[I") := ⟨lwT1 (List.mem_of_getElem? (i := 73) rfl), good_of_word rfl⟩
theorem tw466 : lwG (.constant RX5 129 (1000000)) := ⟨lwT4 (List.mem_of_getElem? (i := 39) rfl), good_of_word rfl⟩
theorem tw467 : lwG (.code yX5_beginOrder cX5_beginOrder 7 none) := ⟨lwT4 (List.mem_of_getElem? (i := 29) rfl), good_of_word rfl⟩
theorem tw468 : lwG (.selects RX5 yX5_beginOrder yX5_beginOrder) := ⟨lwT0 (List.mem_of_getElem? (i := 6) rfl), good_of_word rfl⟩
theorem tw469 : lwG (.instanceMethod yX5_beginOrder) := ⟨lwT4 (List.mem_of_getElem? (i := 28) rfl), good_of_word rfl⟩
theorem tw470 : lwG (.methodLink RX5 110 yX5_beginOrder) := ⟨lwT4 (List.mem_of_getElem? (i := 26) rfl), good_of_word rfl⟩
theorem tw471 : lwG (.code yX1_nearestOpen cX1_nearestOpen 4 (some .int)) := ⟨lwT2 (List.mem_of_getElem? (i := 135) rfl), good_of_word rfl⟩
theorem tw472 : lwG (.selects RX1 yX1_nearestOpen yX1_nearestOpen) := ⟨lwT0 (List.mem_of_getElem? (i := 3) rfl), good_of_word rfl⟩
theorem tw473 : lwG (.instanceMethod yX1_nearestOpen) := ⟨lwT2 (List.mem_of_getElem? (i := 134) rfl), good_of_word rfl⟩
theorem tw474 : lwG (.methodLink RX1 23 yX1_nearestOpen) := ⟨lwT2 (List.mem_of_getElem? (i := 132) rfl), good_of_word rfl⟩
theorem tw475 : lwG (.methodLink RX1 44 Lib.Math.min.name) := ⟨lwT2 (List.mem_of_getElem? (i := 140) rfl), good_of_word rfl⟩
theorem tw476 : lwG (.fieldLink RX1 41 "SnowDispatcher$Streets" "size" "[I") := ⟨lwT1 (List.mem_of_getElem? (i := 81) rfl), good_of_word rfl⟩
theorem tw477 : lwG (.fieldLink RX1 31 "SnowDispatcher$Streets" "count" "I") := ⟨lwT1 (List.mem_of_getElem? (i := 94) rfl), good_of_word rfl⟩
theorem tw478 : lwG (.constant RX1 22 (1000000)) := ⟨lwT2 (List.mem_of_getElem? (i := 112) rfl), good_of_word rfl⟩
theorem tw479 : lwG (.code yX1_measureFrom cX1_measureFrom 7 none) := ⟨lwT2 (List.mem_of_getElem? (i := 131) rfl), good_of_word rfl⟩
theorem tw480 : lwG (.selects RX1 yX1_measureFrom yX1_measureFrom) := ⟨lwT2 (List.mem_of_getElem? (i := 130) rfl), good_of_word rfl⟩
theorem tw481 : lwG (.instanceMethod yX1_measureFrom) := ⟨lwT2 (List.mem_of_getElem? (i := 129) rfl), good_of_word rfl⟩
theorem tw482 : lwG (.methodLink RX5 149 yX1_measureFrom) := ⟨lwT4 (List.mem_of_getElem? (i := 40) rfl), good_of_word rfl⟩
theorem tw483 : lwG (.methodLink RX5 145 yX2_has) := ⟨lwT4 (List.mem_of_getElem? (i := 38) rfl), good_of_word rfl⟩
theorem tw484 : lwG (.fieldLink RX5 156 "SnowDispatcher$Streets" "clearings" "[I") := ⟨lwT1 (List.mem_of_getElem? (i := 92) rfl), good_of_word rfl⟩
theorem tw485 : lwG (.fieldLink RX5 153 "SnowDispatcher$Streets" "snow" "[I") := ⟨lwT1 (List.mem_of_getElem? (i := 85) rfl), good_of_word rfl⟩
theorem tw486 : lwG (.code yX5_clearStreet cX5_clearStreet 2 none) := ⟨lwT4 (List.mem_of_getElem? (i := 53) rfl), good_of_word rfl⟩
theorem tw487 : lwG (.selects RX5 yX5_clearStreet yX5_clearStreet) := ⟨lwT0 (List.mem_of_getElem? (i := 7) rfl), good_of_word rfl⟩
theorem tw488 : lwG (.instanceMethod yX5_clearStreet) := ⟨lwT4 (List.mem_of_getElem? (i := 52) rfl), good_of_word rfl⟩
theorem tw489 : lwG (.methodLink RX5 117 yX5_clearStreet) := ⟨lwT4 (List.mem_of_getElem? (i := 50) rfl), good_of_word rfl⟩
theorem tw490 : lwG (.code yX2_work cX2_work 2 (some .int)) := ⟨lwT4 (List.mem_of_getElem? (i := 49) rfl), good_of_word rfl⟩
theorem tw491 : lwG (.selects RX2 yX2_work yX2_work) := ⟨lwT4 (List.mem_of_getElem? (i := 48) rfl), good_of_word rfl⟩
theorem tw492 : lwG (.instanceMethod yX2_work) := ⟨lwT4 (List.mem_of_getElem? (i := 47) rfl), good_of_word rfl⟩
theorem tw493 : lwG (.methodLink RX5 114 yX2_work) := ⟨lwT4 (List.mem_of_getElem? (i := 46) rfl), good_of_word rfl⟩
theorem tw494 : lwG (.code yX2_begin cX2_begin 5 none) := ⟨lwT4 (List.mem_of_getElem? (i := 45) rfl), good_of_word rfl⟩
theorem tw495 : lwG (.selects RX2 yX2_begin yX2_begin) := ⟨lwT4 (List.mem_of_getElem? (i := 44) rfl), good_of_word rfl⟩
theorem tw496 : lwG (.instanceMethod yX2_begin) := ⟨lwT4 (List.mem_of_getElem? (i := 43) rfl), good_of_word rfl⟩
theorem tw497 : lwG (.methodLink RX5 141 yX2_begin) := ⟨lwT4 (List.mem_of_getElem? (i := 42) rfl), good_of_word rfl⟩
theorem tw498 : lwG (.code yX1_reachOf cX1_reachOf 2 (some .int)) := ⟨lwT2 (List.mem_of_getElem? (i := 146) rfl), good_of_word rfl⟩
theorem tw499 : lwG (.selects RX1 yX1_reachOf yX1_reachOf) := ⟨lwT2 (List.mem_of_getElem? (i := 145) rfl), good_of_word rfl⟩
theorem tw500 : lwG (.instanceMethod yX1_reachOf) := ⟨lwT2 (List.mem_of_getElem? (i := 144) rfl), good_of_word rfl⟩
theorem tw501 : lwG (.methodLink RX5 136 yX1_reachOf) := ⟨lwT4 (List.mem_of_getElem? (i := 41) rfl), good_of_word rfl⟩
theorem tw502 : lwG (.code yX4_otherEnd cX4_otherEnd 3 (some .int)) := ⟨lwT2 (List.mem_of_getElem? (i := 139) rfl), good_of_word rfl⟩
theorem tw503 : lwG (.selects RX4 yX4_otherEnd yX4_otherEnd) := ⟨lwT2 (List.mem_of_getElem? (i := 138) rfl), good_of_word rfl⟩
theorem tw504 : lwG (.instanceMethod yX4_otherEnd) := ⟨lwT2 (List.mem_of_getElem? (i := 137) rfl), good_of_word rfl⟩
theorem tw505 : lwG (.methodLink RX1 37 yX4_otherEnd) := ⟨lwT2 (List.mem_of_getElem? (i := 136) rfl), good_of_word rfl⟩
theorem tw506 : lwG (.selects RX4 yX4_complain yX4_complain) := ⟨lwT4 (List.mem_of_getElem? (i := 74) rfl), good_of_word rfl⟩
theorem tw507 : lwG (.instanceMethod yX4_complain) := ⟨lwT4 (List.mem_of_getElem? (i := 73) rfl), good_of_word rfl⟩
theorem tw508 : lwG (.methodLink RX5 168 yX4_complain) := ⟨lwT4 (List.mem_of_getElem? (i := 72) rfl), good_of_word rfl⟩
theorem tw509 : lwG (.code yX4_drift cX4_drift 5 none) := ⟨lwT4 (List.mem_of_getElem? (i := 71) rfl), good_of_word rfl⟩
theorem tw510 : lwG (.selects RX4 yX4_drift yX4_drift) := ⟨lwT4 (List.mem_of_getElem? (i := 70) rfl), good_of_word rfl⟩
theorem tw511 : lwG (.instanceMethod yX4_drift) := ⟨lwT4 (List.mem_of_getElem? (i := 69) rfl), good_of_word rfl⟩
theorem tw512 : lwG (.methodLink RX5 165 yX4_drift) := ⟨lwT4 (List.mem_of_getElem? (i := 68) rfl), good_of_word rfl⟩
theorem tw513 : lwG (.methodLink RX4 71 Lib.Math.max.name) := ⟨lwT4 (List.mem_of_getElem? (i := 67) rfl), good_of_word rfl⟩
theorem tw514 : lwG (.code yX4_melt cX4_melt 3 none) := ⟨lwT4 (List.mem_of_getElem? (i := 66) rfl), good_of_word rfl⟩
theorem tw515 : lwG (.selects RX4 yX4_melt yX4_melt) := ⟨lwT4 (List.mem_of_getElem? (i := 65) rfl), good_of_word rfl⟩
theorem tw516 : lwG (.instanceMethod yX4_melt) := ⟨lwT4 (List.mem_of_getElem? (i := 64) rfl), good_of_word rfl⟩
theorem tw517 : lwG (.methodLink RX5 162 yX4_melt) := ⟨lwT4 (List.mem_of_getElem? (i := 63) rfl), good_of_word rfl⟩
theorem tw518 : lwG (.methodLink RX4 66 Lib.Math.min.name) := ⟨lwT4 (List.mem_of_getElem? (i := 62) rfl), good_of_word rfl⟩
theorem tw519 : lwG (.code yX4_fall cX4_fall 3 none) := ⟨lwT4 (List.mem_of_getElem? (i := 61) rfl), good_of_word rfl⟩
theorem tw520 : lwG (.selects RX4 yX4_fall yX4_fall) := ⟨lwT4 (List.mem_of_getElem? (i := 60) rfl), good_of_word rfl⟩
theorem tw521 : lwG (.instanceMethod yX4_fall) := ⟨lwT4 (List.mem_of_getElem? (i := 59) rfl), good_of_word rfl⟩
theorem tw522 : lwG (.methodLink RX5 159 yX4_fall) := ⟨lwT4 (List.mem_of_getElem? (i := 58) rfl), good_of_word rfl⟩
theorem tw523 : lwG (.code yX5_endHour cX5_endHour 1 none) := ⟨lwT4 (List.mem_of_getElem? (i := 57) rfl), good_of_word rfl⟩
theorem tw524 : lwG (.selects RX5 yX5_endHour yX5_endHour) := ⟨lwT0 (List.mem_of_getElem? (i := 8) rfl), good_of_word rfl⟩
theorem tw525 : lwG (.instanceMethod yX5_endHour) := ⟨lwT4 (List.mem_of_getElem? (i := 56) rfl), good_of_word rfl⟩
theorem tw526 : lwG (.methodLink RX5 120 yX5_endHour) := ⟨lwT4 (List.mem_of_getElem? (i := 54) rfl), good_of_word rfl⟩
theorem tw527 : lwG (.code yX4_excess cX4_excess 3 (some .int)) := ⟨lwT4 (List.mem_of_getElem? (i := 79) rfl), good_of_word rfl⟩
theorem tw528 : lwG (.selects RX4 yX4_excess yX4_excess) := ⟨lwT4 (List.mem_of_getElem? (i := 78) rfl), good_of_word rfl⟩
theorem tw529 : lwG (.instanceMethod yX4_excess) := ⟨lwT4 (List.mem_of_getElem? (i := 77) rfl), good_of_word rfl⟩
theorem tw530 : lwG (.methodLink RX4 59 yX4_excess) := ⟨lwT4 (List.mem_of_getElem? (i := 76) rfl), good_of_word rfl⟩
theorem tw531 : lwG (.code yX4_complain cX4_complain 3 (some .int)) := ⟨lwT4 (List.mem_of_getElem? (i := 75) rfl), good_of_word rfl⟩
theorem tw532 : lwG (.selects RX7 yX7_advance yX7_advance) := ⟨lwT7 (List.mem_of_getElem? (i := 216) rfl), good_of_word rfl⟩
theorem tw533 : lwG (.instanceMethod yX7_advance) := ⟨lwT7 (List.mem_of_getElem? (i := 215) rfl), good_of_word rfl⟩
theorem tw534 : lwG (.methodLink RL 191 yX7_advance) := ⟨lwT7 (List.mem_of_getElem? (i := 214) rfl), good_of_word rfl⟩
theorem tw535 : lwG (.code yX7_advance cX7_advance 2 (some .int)) := ⟨lwT7 (List.mem_of_getElem? (i := 217) rfl), good_of_word rfl⟩
theorem tw536 : lwG (.methodLink RX7 159 yX7_minutePasses) := ⟨lwT7 (List.mem_of_getElem? (i := 222) rfl), good_of_word rfl⟩
theorem tw537 : lwG (.fieldLink RX7 162 "SnowDispatcherModel" "answer" "I") := ⟨lwT7 (List.mem_of_getElem? (i := 41) rfl), good_of_word rfl⟩
theorem tw538 : lwG (.code yX7_waits cX7_waits 4 (some .int)) := ⟨lwT7 (List.mem_of_getElem? (i := 221) rfl), good_of_word rfl⟩
theorem tw539 : lwG (.selects RX7 yX7_waits yX7_waits) := ⟨lwT0 (List.mem_of_getElem? (i := 36) rfl), good_of_word rfl⟩
theorem tw540 : lwG (.instanceMethod yX7_waits) := ⟨lwT7 (List.mem_of_getElem? (i := 220) rfl), good_of_word rfl⟩
theorem tw541 : lwG (.methodLink RX7 165 yX7_waits) := ⟨lwT7 (List.mem_of_getElem? (i := 218) rfl), good_of_word rfl⟩
theorem tw542 : lwG (.code yX7_minutes cX7_minutes 4 (some .int)) := ⟨lwT7 (List.mem_of_getElem? (i := 237) rfl), good_of_word rfl⟩
theorem tw543 : lwG (.selects RX7 yX7_minutes yX7_minutes) := ⟨lwT0 (List.mem_of_getElem? (i := 40) rfl), good_of_word rfl⟩
theorem tw544 : lwG (.instanceMethod yX7_minutes) := ⟨lwT7 (List.mem_of_getElem? (i := 236) rfl), good_of_word rfl⟩
theorem tw545 : lwG (.methodLink RX7 138 yX7_minutes) := ⟨lwT7 (List.mem_of_getElem? (i := 234) rfl), good_of_word rfl⟩
theorem tw546 : lwG (.code yX7_takes cX7_takes 6 none) := ⟨lwT7 (List.mem_of_getElem? (i := 233) rfl), good_of_word rfl⟩
theorem tw547 : lwG (.selects RX7 yX7_takes yX7_takes) := ⟨lwT0 (List.mem_of_getElem? (i := 39) rfl), good_of_word rfl⟩
theorem tw548 : lwG (.instanceMethod yX7_takes) := ⟨lwT7 (List.mem_of_getElem? (i := 232) rfl), good_of_word rfl⟩
theorem tw549 : lwG (.methodLink RX7 141 yX7_takes) := ⟨lwT7 (List.mem_of_getElem? (i := 230) rfl), good_of_word rfl⟩
theorem tw550 : lwG (.code yX7_ploughMinute cX7_ploughMinute 3 (some .int)) := ⟨lwT7 (List.mem_of_getElem? (i := 229) rfl), good_of_word rfl⟩
theorem tw551 : lwG (.selects RX7 yX7_ploughMinute yX7_ploughMinute) := ⟨lwT0 (List.mem_of_getElem? (i := 38) rfl), good_of_word rfl⟩
theorem tw552 : lwG (.instanceMethod yX7_ploughMinute) := ⟨lwT7 (List.mem_of_getElem? (i := 228) rfl), good_of_word rfl⟩
theorem tw553 : lwG (.methodLink RX7 153 yX7_ploughMinute) := ⟨lwT7 (List.mem_of_getElem? (i := 226) rfl), good_of_word rfl⟩
theorem tw554 : lwG (.code yX7_minutePasses cX7_minutePasses 4 (some .boolean)) := ⟨lwT7 (List.mem_of_getElem? (i := 225) rfl), good_of_word rfl⟩
theorem tw555 : lwG (.selects RX7 yX7_minutePasses yX7_minutePasses) := ⟨lwT0 (List.mem_of_getElem? (i := 37) rfl), good_of_word rfl⟩
theorem tw556 : lwG (.instanceMethod yX7_minutePasses) := ⟨lwT7 (List.mem_of_getElem? (i := 224) rfl), good_of_word rfl⟩
theorem tw557 : lwG (.code yX7_hourEnds cX7_hourEnds 3 none) := ⟨lwT8 (List.mem_of_getElem? (i := 9) rfl), good_of_word rfl⟩
theorem tw558 : lwG (.selects RX7 yX7_hourEnds yX7_hourEnds) := ⟨lwT0 (List.mem_of_getElem? (i := 43) rfl), good_of_word rfl⟩
theorem tw559 : lwG (.instanceMethod yX7_hourEnds) := ⟨lwT8 (List.mem_of_getElem? (i := 8) rfl), good_of_word rfl⟩
theorem tw560 : lwG (.methodLink RX7 156 yX7_hourEnds) := ⟨lwT8 (List.mem_of_getElem? (i := 6) rfl), good_of_word rfl⟩
theorem tw561 : lwG (.code yX7_clears cX7_clears 3 none) := ⟨lwT8 (List.mem_of_getElem? (i := 5) rfl), good_of_word rfl⟩
theorem tw562 : lwG (.selects RX7 yX7_clears yX7_clears) := ⟨lwT0 (List.mem_of_getElem? (i := 42) rfl), good_of_word rfl⟩
theorem tw563 : lwG (.instanceMethod yX7_clears) := ⟨lwT8 (List.mem_of_getElem? (i := 4) rfl), good_of_word rfl⟩
theorem tw564 : lwG (.methodLink RX7 144 yX7_clears) := ⟨lwT8 (List.mem_of_getElem? (i := 2) rfl), good_of_word rfl⟩
theorem tw565 : lwG (.code yX7_finds cX7_finds 6 none) := ⟨lwT8 (List.mem_of_getElem? (i := 1) rfl), good_of_word rfl⟩
theorem tw566 : lwG (.selects RX7 yX7_finds yX7_finds) := ⟨lwT0 (List.mem_of_getElem? (i := 41) rfl), good_of_word rfl⟩
theorem tw567 : lwG (.instanceMethod yX7_finds) := ⟨lwT8 (List.mem_of_getElem? (i := 0) rfl), good_of_word rfl⟩
theorem tw568 : lwG (.methodLink RX7 134 yX7_finds) := ⟨lwT7 (List.mem_of_getElem? (i := 238) rfl), good_of_word rfl⟩
theorem tw569 : lwG (.code yX7_limit cX7_limit 2 (some .int)) := ⟨lwT8 (List.mem_of_getElem? (i := 21) rfl), good_of_word rfl⟩
theorem tw570 : lwG (.selects RX7 yX7_limit yX7_limit) := ⟨lwT0 (List.mem_of_getElem? (i := 46) rfl), good_of_word rfl⟩
theorem tw571 : lwG (.instanceMethod yX7_limit) := ⟨lwT8 (List.mem_of_getElem? (i := 20) rfl), good_of_word rfl⟩
theorem tw572 : lwG (.methodLink RX7 65 yX7_limit) := ⟨lwT8 (List.mem_of_getElem? (i := 18) rfl), good_of_word rfl⟩
theorem tw573 : lwG (.code yX7_overdue cX7_overdue 2 (some .boolean)) := ⟨lwT8 (List.mem_of_getElem? (i := 17) rfl), good_of_word rfl⟩
theorem tw574 : lwG (.selects RX7 yX7_overdue yX7_overdue) := ⟨lwT0 (List.mem_of_getElem? (i := 45) rfl), good_of_word rfl⟩
theorem tw575 : lwG (.instanceMethod yX7_overdue) := ⟨lwT8 (List.mem_of_getElem? (i := 16) rfl), good_of_word rfl⟩
theorem tw576 : lwG (.methodLink RX7 150 yX7_overdue) := ⟨lwT8 (List.mem_of_getElem? (i := 14) rfl), good_of_word rfl⟩
theorem tw577 : lwG (.code yX7_drifts cX7_drifts 5 none) := ⟨lwT8 (List.mem_of_getElem? (i := 13) rfl), good_of_word rfl⟩
theorem tw578 : lwG (.selects RX7 yX7_drifts yX7_drifts) := ⟨lwT0 (List.mem_of_getElem? (i := 44) rfl), good_of_word rfl⟩
theorem tw579 : lwG (.instanceMethod yX7_drifts) := ⟨lwT8 (List.mem_of_getElem? (i := 12) rfl), good_of_word rfl⟩
theorem tw580 : lwG (.methodLink RX7 147 yX7_drifts) := ⟨lwT8 (List.mem_of_getElem? (i := 10) rfl), good_of_word rfl⟩
theorem tw581 : lwG (.selects RX6 yX6_streetCount yX6_streetCount) := ⟨lwT2 (List.mem_of_getElem? (i := 62) rfl), good_of_word rfl⟩
theorem tw582 : lwG (.instanceMethod yX6_streetCount) := ⟨lwT2 (List.mem_of_getElem? (i := 61) rfl), good_of_word rfl⟩
theorem tw583 : lwG (.methodLink RL 192 yX6_streetCount) := ⟨lwT2 (List.mem_of_getElem? (i := 60) rfl), good_of_word rfl⟩
theorem tw584 : lwG (.code yX6_streetCount cX6_streetCount 1 (some .int)) := ⟨lwT2 (List.mem_of_getElem? (i := 63) rfl), good_of_word rfl⟩
theorem tw585 : lwG (.fieldLink RX6 153 "SnowDispatcher$Streets" "count" "I") := ⟨lwT1 (List.mem_of_getElem? (i := 95) rfl), good_of_word rfl⟩
theorem tw586 : lwG (.fieldLink RX6 149 "SnowDispatcher$Town" "streets" "LSnowDispatcher$Streets;") := ⟨lwT1 (List.mem_of_getElem? (i := 150) rfl), good_of_word rfl⟩
theorem tw587 : lwG (.selects RX7 yX7_streetCount yX7_streetCount) := ⟨lwT8 (List.mem_of_getElem? (i := 24) rfl), good_of_word rfl⟩
theorem tw588 : lwG (.instanceMethod yX7_streetCount) := ⟨lwT8 (List.mem_of_getElem? (i := 23) rfl), good_of_word rfl⟩
theorem tw589 : lwG (.methodLink RL 195 yX7_streetCount) := ⟨lwT8 (List.mem_of_getElem? (i := 22) rfl), good_of_word rfl⟩
theorem tw590 : lwG (.code yX7_streetCount cX7_streetCount 1 (some .int)) := ⟨lwT8 (List.mem_of_getElem? (i := 25) rfl), good_of_word rfl⟩
theorem tw591 : lwG (.static yL_lowerEnd) := ⟨lwT4 (List.mem_of_getElem? (i := 82) rfl), good_of_word rfl⟩
theorem tw592 : lwG (.methodLink RL 196 yL_lowerEnd) := ⟨lwT4 (List.mem_of_getElem? (i := 81) rfl), good_of_word rfl⟩
theorem tw593 : lwG (.codeWith yL_lowerEnd cL_lowerEnd 4 (some .int) [(0, 9, 12, 13)]) := ⟨lwT4 (List.mem_of_getElem? (i := 83) rfl), good_of_word rfl⟩
theorem tw594 : lwG (.selects RX6 yX6_lowerEnd yX6_lowerEnd) := ⟨lwT4 (List.mem_of_getElem? (i := 86) rfl), good_of_word rfl⟩
theorem tw595 : lwG (.instanceMethod yX6_lowerEnd) := ⟨lwT4 (List.mem_of_getElem? (i := 85) rfl), good_of_word rfl⟩
theorem tw596 : lwG (.methodLink RL 49 yX6_lowerEnd) := ⟨lwT4 (List.mem_of_getElem? (i := 84) rfl), good_of_word rfl⟩
theorem tw597 : lwG (.code yX6_lowerEnd cX6_lowerEnd 2 (some .int)) := ⟨lwT4 (List.mem_of_getElem? (i := 87) rfl), good_of_word rfl⟩
theorem tw598 : lwG (.methodLink RX6 158 yX4_has) := ⟨lwT4 (List.mem_of_getElem? (i := 88) rfl), good_of_word rfl⟩
theorem tw599 : lwG (.fieldLink RX6 162 "SnowDispatcher$Streets" "lower" "[I") := ⟨lwT1 (List.mem_of_getElem? (i := 72) rfl), good_of_word rfl⟩
theorem tw600 : lwG (.selects RX7 yX7_lowerEnd yX7_lowerEnd) := ⟨lwT8 (List.mem_of_getElem? (i := 28) rfl), good_of_word rfl⟩
theorem tw601 : lwG (.instanceMethod yX7_lowerEnd) := ⟨lwT8 (List.mem_of_getElem? (i := 27) rfl), good_of_word rfl⟩
theorem tw602 : lwG (.methodLink RL 198 yX7_lowerEnd) := ⟨lwT8 (List.mem_of_getElem? (i := 26) rfl), good_of_word rfl⟩
theorem tw603 : lwG (.code yX7_lowerEnd cX7_lowerEnd 2 (some .int)) := ⟨lwT8 (List.mem_of_getElem? (i := 29) rfl), good_of_word rfl⟩
theorem tw604 : lwG (.code yX7_ofStreet cX7_ofStreet 3 (some .int)) := ⟨lwT8 (List.mem_of_getElem? (i := 33) rfl), good_of_word rfl⟩
theorem tw605 : lwG (.selects RX7 yX7_ofStreet yX7_ofStreet) := ⟨lwT0 (List.mem_of_getElem? (i := 47) rfl), good_of_word rfl⟩
theorem tw606 : lwG (.instanceMethod yX7_ofStreet) := ⟨lwT8 (List.mem_of_getElem? (i := 32) rfl), good_of_word rfl⟩
theorem tw607 : lwG (.methodLink RX7 168 yX7_ofStreet) := ⟨lwT8 (List.mem_of_getElem? (i := 30) rfl), good_of_word rfl⟩
theorem tw608 : lwG (.static yL_higherEnd) := ⟨lwT4 (List.mem_of_getElem? (i := 90) rfl), good_of_word rfl⟩
theorem tw609 : lwG (.methodLink RL 199 yL_higherEnd) := ⟨lwT4 (List.mem_of_getElem? (i := 89) rfl), good_of_word rfl⟩
theorem tw610 : lwG (.codeWith yL_higherEnd cL_higherEnd 4 (some .int) [(0, 9, 12, 13)]) := ⟨lwT4 (List.mem_of_getElem? (i := 91) rfl), good_of_word rfl⟩
theorem tw611 : lwG (.selects RX6 yX6_higherEnd yX6_higherEnd) := ⟨lwT4 (List.mem_of_getElem? (i := 94) rfl), good_of_word rfl⟩
theorem tw612 : lwG (.instanceMethod yX6_higherEnd) := ⟨lwT4 (List.mem_of_getElem? (i := 93) rfl), good_of_word rfl⟩
theorem tw613 : lwG (.methodLink RL 52 yX6_higherEnd) := ⟨lwT4 (List.mem_of_getElem? (i := 92) rfl), good_of_word rfl⟩
theorem tw614 : lwG (.code yX6_higherEnd cX6_higherEnd 2 (some .int)) := ⟨lwT4 (List.mem_of_getElem? (i := 95) rfl), good_of_word rfl⟩
theorem tw615 : lwG (.fieldLink RX6 166 "SnowDispatcher$Streets" "higher" "[I") := ⟨lwT1 (List.mem_of_getElem? (i := 77) rfl), good_of_word rfl⟩
theorem tw616 : lwG (.selects RX7 yX7_higherEnd yX7_higherEnd) := ⟨lwT8 (List.mem_of_getElem? (i := 36) rfl), good_of_word rfl⟩
theorem tw617 : lwG (.instanceMethod yX7_higherEnd) := ⟨lwT8 (List.mem_of_getElem? (i := 35) rfl), good_of_word rfl⟩
theorem tw618 : lwG (.methodLink RL 201 yX7_higherEnd) := ⟨lwT8 (List.mem_of_getElem? (i := 34) rfl), good_of_word rfl⟩
theorem tw619 : lwG (.code yX7_higherEnd cX7_higherEnd 2 (some .int)) := ⟨lwT8 (List.mem_of_getElem? (i := 37) rfl), good_of_word rfl⟩
theorem tw620 : lwG (.static yL_streetClass) := ⟨lwT4 (List.mem_of_getElem? (i := 97) rfl), good_of_word rfl⟩
theorem tw621 : lwG (.methodLink RL 202 yL_streetClass) := ⟨lwT4 (List.mem_of_getElem? (i := 96) rfl), good_of_word rfl⟩
theorem tw622 : lwG (.codeWith yL_streetClass cL_streetClass 4 (some .int) [(0, 9, 12, 13)]) := ⟨lwT4 (List.mem_of_getElem? (i := 98) rfl), good_of_word rfl⟩
theorem tw623 : lwG (.selects RX6 yX6_streetClass yX6_streetClass) := ⟨lwT4 (List.mem_of_getElem? (i := 101) rfl), good_of_word rfl⟩
theorem tw624 : lwG (.instanceMethod yX6_streetClass) := ⟨lwT4 (List.mem_of_getElem? (i := 100) rfl), good_of_word rfl⟩
theorem tw625 : lwG (.methodLink RL 55 yX6_streetClass) := ⟨lwT4 (List.mem_of_getElem? (i := 99) rfl), good_of_word rfl⟩
theorem tw626 : lwG (.code yX6_streetClass cX6_streetClass 2 (some .char)) := ⟨lwT4 (List.mem_of_getElem? (i := 102) rfl), good_of_word rfl⟩
theorem tw627 : lwG (.fieldLink RX6 169 "SnowDispatcher$Streets" "kind" "[C") := ⟨lwT1 (List.mem_of_getElem? (i := 79) rfl), good_of_word rfl⟩
theorem tw628 : lwG (.selects RX7 yX7_streetClass yX7_streetClass) := ⟨lwT8 (List.mem_of_getElem? (i := 40) rfl), good_of_word rfl⟩
theorem tw629 : lwG (.instanceMethod yX7_streetClass) := ⟨lwT8 (List.mem_of_getElem? (i := 39) rfl), good_of_word rfl⟩
theorem tw630 : lwG (.methodLink RL 204 yX7_streetClass) := ⟨lwT8 (List.mem_of_getElem? (i := 38) rfl), good_of_word rfl⟩
theorem tw631 : lwG (.code yX7_streetClass cX7_streetClass 2 (some .char)) := ⟨lwT8 (List.mem_of_getElem? (i := 41) rfl), good_of_word rfl⟩
theorem tw632 : lwG (.static yL_length) := ⟨lwT4 (List.mem_of_getElem? (i := 104) rfl), good_of_word rfl⟩
theorem tw633 : lwG (.methodLink RL 205 yL_length) := ⟨lwT4 (List.mem_of_getElem? (i := 103) rfl), good_of_word rfl⟩
theorem tw634 : lwG (.codeWith yL_length cL_length 4 (some .int) [(0, 9, 12, 13)]) := ⟨lwT4 (List.mem_of_getElem? (i := 105) rfl), good_of_word rfl⟩
theorem tw635 : lwG (.selects RX6 yX6_length yX6_length) := ⟨lwT4 (List.mem_of_getElem? (i := 108) rfl), good_of_word rfl⟩
theorem tw636 : lwG (.instanceMethod yX6_length) := ⟨lwT4 (List.mem_of_getElem? (i := 107) rfl), good_of_word rfl⟩
theorem tw637 : lwG (.methodLink RL 59 yX6_length) := ⟨lwT4 (List.mem_of_getElem? (i := 106) rfl), good_of_word rfl⟩
theorem tw638 : lwG (.code yX6_length cX6_length 2 (some .int)) := ⟨lwT4 (List.mem_of_getElem? (i := 109) rfl), good_of_word rfl⟩
theorem tw639 : lwG (.fieldLink RX6 173 "SnowDispatcher$Streets" "size" "[I") := ⟨lwT1 (List.mem_of_getElem? (i := 83) rfl), good_of_word rfl⟩
theorem tw640 : lwG (.selects RX7 yX7_length yX7_length) := ⟨lwT8 (List.mem_of_getElem? (i := 44) rfl), good_of_word rfl⟩
theorem tw641 : lwG (.instanceMethod yX7_length) := ⟨lwT8 (List.mem_of_getElem? (i := 43) rfl), good_of_word rfl⟩
theorem tw642 : lwG (.methodLink RL 207 yX7_length) := ⟨lwT8 (List.mem_of_getElem? (i := 42) rfl), good_of_word rfl⟩
theorem tw643 : lwG (.code yX7_length cX7_length 2 (some .int)) := ⟨lwT8 (List.mem_of_getElem? (i := 45) rfl), good_of_word rfl⟩
theorem tw644 : lwG (.static yL_depth) := ⟨lwT4 (List.mem_of_getElem? (i := 111) rfl), good_of_word rfl⟩
theorem tw645 : lwG (.methodLink RL 208 yL_depth) := ⟨lwT4 (List.mem_of_getElem? (i := 110) rfl), good_of_word rfl⟩
theorem tw646 : lwG (.codeWith yL_depth cL_depth 4 (some .int) [(0, 9, 12, 13)]) := ⟨lwT4 (List.mem_of_getElem? (i := 112) rfl), good_of_word rfl⟩
theorem tw647 : lwG (.selects RX6 yX6_depth yX6_depth) := ⟨lwT4 (List.mem_of_getElem? (i := 115) rfl), good_of_word rfl⟩
theorem tw648 : lwG (.instanceMethod yX6_depth) := ⟨lwT4 (List.mem_of_getElem? (i := 114) rfl), good_of_word rfl⟩
theorem tw649 : lwG (.methodLink RL 62 yX6_depth) := ⟨lwT4 (List.mem_of_getElem? (i := 113) rfl), good_of_word rfl⟩
theorem tw650 : lwG (.code yX6_depth cX6_depth 2 (some .int)) := ⟨lwT4 (List.mem_of_getElem? (i := 116) rfl), good_of_word rfl⟩
theorem tw651 : lwG (.fieldLink RX6 176 "SnowDispatcher$Streets" "snow" "[I") := ⟨lwT1 (List.mem_of_getElem? (i := 86) rfl), good_of_word rfl⟩
theorem tw652 : lwG (.selects RX7 yX7_depth yX7_depth) := ⟨lwT8 (List.mem_of_getElem? (i := 48) rfl), good_of_word rfl⟩
theorem tw653 : lwG (.instanceMethod yX7_depth) := ⟨lwT8 (List.mem_of_getElem? (i := 47) rfl), good_of_word rfl⟩
theorem tw654 : lwG (.methodLink RL 210 yX7_depth) := ⟨lwT8 (List.mem_of_getElem? (i := 46) rfl), good_of_word rfl⟩
theorem tw655 : lwG (.code yX7_depth cX7_depth 2 (some .int)) := ⟨lwT8 (List.mem_of_getElem? (i := 49) rfl), good_of_word rfl⟩
theorem tw656 : lwG (.static yL_isOverdue) := ⟨lwT4 (List.mem_of_getElem? (i := 118) rfl), good_of_word rfl⟩
theorem tw657 : lwG (.methodLink RL 211 yL_isOverdue) := ⟨lwT4 (List.mem_of_getElem? (i := 117) rfl), good_of_word rfl⟩
theorem tw658 : lwG (.codeWith yL_isOverdue cL_isOverdue 4 (some .int) [(0, 16, 19, 13)]) := ⟨lwT4 (List.mem_of_getElem? (i := 119) rfl), good_of_word rfl⟩
theorem tw659 : lwG (.selects RX6 yX6_isOverdue yX6_isOverdue) := ⟨lwT4 (List.mem_of_getElem? (i := 122) rfl), good_of_word rfl⟩
theorem tw660 : lwG (.instanceMethod yX6_isOverdue) := ⟨lwT4 (List.mem_of_getElem? (i := 121) rfl), good_of_word rfl⟩
theorem tw661 : lwG (.methodLink RL 65 yX6_isOverdue) := ⟨lwT4 (List.mem_of_getElem? (i := 120) rfl), good_of_word rfl⟩
theorem tw662 : lwG (.code yX6_isOverdue cX6_isOverdue 2 (some .boolean)) := ⟨lwT4 (List.mem_of_getElem? (i := 123) rfl), good_of_word rfl⟩
theorem tw663 : lwG (.methodLink RX6 179 yX4_excess) := ⟨lwT4 (List.mem_of_getElem? (i := 124) rfl), good_of_word rfl⟩
theorem tw664 : lwG (.selects RX7 yX7_isOverdue yX7_isOverdue) := ⟨lwT8 (List.mem_of_getElem? (i := 52) rfl), good_of_word rfl⟩
theorem tw665 : lwG (.instanceMethod yX7_isOverdue) := ⟨lwT8 (List.mem_of_getElem? (i := 51) rfl), good_of_word rfl⟩
theorem tw666 : lwG (.methodLink RL 213 yX7_isOverdue) := ⟨lwT8 (List.mem_of_getElem? (i := 50) rfl), good_of_word rfl⟩
theorem tw667 : lwG (.code yX7_isOverdue cX7_isOverdue 2 (some .boolean)) := ⟨lwT8 (List.mem_of_getElem? (i := 53) rfl), good_of_word rfl⟩
theorem tw668 : lwG (.static yL_isSalted) := ⟨lwT4 (List.mem_of_getElem? (i := 126) rfl), good_of_word rfl⟩
theorem tw669 : lwG (.methodLink RL 214 yL_isSalted) := ⟨lwT4 (List.mem_of_getElem? (i := 125) rfl), good_of_word rfl⟩
theorem tw670 : lwG (.codeWith yL_isSalted cL_isSalted 4 (some .int) [(0, 16, 19, 13)]) := ⟨lwT4 (List.mem_of_getElem? (i := 127) rfl), good_of_word rfl⟩
theorem tw671 : lwG (.selects RX6 yX6_isSalted yX6_isSalted) := ⟨lwT4 (List.mem_of_getElem? (i := 130) rfl), good_of_word rfl⟩
theorem tw672 : lwG (.instanceMethod yX6_isSalted) := ⟨lwT4 (List.mem_of_getElem? (i := 129) rfl), good_of_word rfl⟩
theorem tw673 : lwG (.methodLink RL 69 yX6_isSalted) := ⟨lwT4 (List.mem_of_getElem? (i := 128) rfl), good_of_word rfl⟩
theorem tw674 : lwG (.code yX6_isSalted cX6_isSalted 2 (some .boolean)) := ⟨lwT4 (List.mem_of_getElem? (i := 131) rfl), good_of_word rfl⟩
theorem tw675 : lwG (.methodLink RX6 185 yX4_saltLeft) := ⟨lwT4 (List.mem_of_getElem? (i := 132) rfl), good_of_word rfl⟩
theorem tw676 : lwG (.fieldLink RX6 182 "SnowDispatcher$Town" "time" "I") := ⟨lwT1 (List.mem_of_getElem? (i := 154) rfl), good_of_word rfl⟩
theorem tw677 : lwG (.selects RX7 yX7_isSalted yX7_isSalted) := ⟨lwT8 (List.mem_of_getElem? (i := 56) rfl), good_of_word rfl⟩
theorem tw678 : lwG (.instanceMethod yX7_isSalted) := ⟨lwT8 (List.mem_of_getElem? (i := 55) rfl), good_of_word rfl⟩
theorem tw679 : lwG (.methodLink RL 216 yX7_isSalted) := ⟨lwT8 (List.mem_of_getElem? (i := 54) rfl), good_of_word rfl⟩
theorem tw680 : lwG (.code yX7_isSalted cX7_isSalted 2 (some .boolean)) := ⟨lwT8 (List.mem_of_getElem? (i := 57) rfl), good_of_word rfl⟩
theorem tw681 : lwG (.static yL_saltMinutes) := ⟨lwT4 (List.mem_of_getElem? (i := 134) rfl), good_of_word rfl⟩
theorem tw682 : lwG (.methodLink RL 217 yL_saltMinutes) := ⟨lwT4 (List.mem_of_getElem? (i := 133) rfl), good_of_word rfl⟩
theorem tw683 : lwG (.codeWith yL_saltMinutes cL_saltMinutes 4 (some .int) [(0, 9, 12, 13), (0, 9, 15, 30)]) := ⟨lwT4 (List.mem_of_getElem? (i := 135) rfl), good_of_word rfl⟩
theorem tw684 : lwG (.selects RX6 yX6_saltMinutes yX6_saltMinutes) := ⟨lwT4 (List.mem_of_getElem? (i := 138) rfl), good_of_word rfl⟩
theorem tw685 : lwG (.instanceMethod yX6_saltMinutes) := ⟨lwT4 (List.mem_of_getElem? (i := 137) rfl), good_of_word rfl⟩
theorem tw686 : lwG (.methodLink RL 72 yX6_saltMinutes) := ⟨lwT4 (List.mem_of_getElem? (i := 136) rfl), good_of_word rfl⟩
theorem tw687 : lwG (.code yX6_saltMinutes cX6_saltMinutes 3 (some .int)) := ⟨lwT4 (List.mem_of_getElem? (i := 139) rfl), good_of_word rfl⟩
theorem tw688 : lwG (.selects RX7 yX7_saltMinutes yX7_saltMinutes) := ⟨lwT8 (List.mem_of_getElem? (i := 60) rfl), good_of_word rfl⟩
theorem tw689 : lwG (.instanceMethod yX7_saltMinutes) := ⟨lwT8 (List.mem_of_getElem? (i := 59) rfl), good_of_word rfl⟩
theorem tw690 : lwG (.methodLink RL 219 yX7_saltMinutes) := ⟨lwT8 (List.mem_of_getElem? (i := 58) rfl), good_of_word rfl⟩
theorem tw691 : lwG (.code yX7_saltMinutes cX7_saltMinutes 2 (some .int)) := ⟨lwT8 (List.mem_of_getElem? (i := 61) rfl), good_of_word rfl⟩
theorem tw692 : lwG (.static yL_complaints) := ⟨lwT4 (List.mem_of_getElem? (i := 142) rfl), good_of_word rfl⟩
theorem tw693 : lwG (.methodLink RL 220 yL_complaints) := ⟨lwT4 (List.mem_of_getElem? (i := 141) rfl), good_of_word rfl⟩
theorem tw694 : lwG (.codeWith yL_complaints cL_complaints 4 (some .int) [(0, 9, 12, 13)]) := ⟨lwT4 (List.mem_of_getElem? (i := 143) rfl), good_of_word rfl⟩
theorem tw695 : lwG (.selects RX6 yX6_complaints yX6_complaints) := ⟨lwT4 (List.mem_of_getElem? (i := 146) rfl), good_of_word rfl⟩
theorem tw696 : lwG (.instanceMethod yX6_complaints) := ⟨lwT4 (List.mem_of_getElem? (i := 145) rfl), good_of_word rfl⟩
theorem tw697 : lwG (.methodLink RL 75 yX6_complaints) := ⟨lwT4 (List.mem_of_getElem? (i := 144) rfl), good_of_word rfl⟩
theorem tw698 : lwG (.code yX6_complaints cX6_complaints 2 (some .int)) := ⟨lwT4 (List.mem_of_getElem? (i := 147) rfl), good_of_word rfl⟩
theorem tw699 : lwG (.fieldLink RX6 190 "SnowDispatcher$Streets" "complained" "[I") := ⟨lwT1 (List.mem_of_getElem? (i := 90) rfl), good_of_word rfl⟩
theorem tw700 : lwG (.selects RX7 yX7_complaints yX7_complaints) := ⟨lwT8 (List.mem_of_getElem? (i := 64) rfl), good_of_word rfl⟩
theorem tw701 : lwG (.instanceMethod yX7_complaints) := ⟨lwT8 (List.mem_of_getElem? (i := 63) rfl), good_of_word rfl⟩
theorem tw702 : lwG (.methodLink RL 222 yX7_complaints) := ⟨lwT8 (List.mem_of_getElem? (i := 62) rfl), good_of_word rfl⟩
theorem tw703 : lwG (.code yX7_complaints cX7_complaints 2 (some .int)) := ⟨lwT8 (List.mem_of_getElem? (i := 65) rfl), good_of_word rfl⟩
theorem tw704 : lwG (.static yL_distance) := ⟨lwT4 (List.mem_of_getElem? (i := 149) rfl), good_of_word rfl⟩
theorem tw705 : lwG (.methodLink RL 223 yL_distance) := ⟨lwT4 (List.mem_of_getElem? (i := 148) rfl), good_of_word rfl⟩
theorem tw706 : lwG (.codeWith yL_distance cL_distance 5 (some .int) [(0, 10, 13, 13), (0, 10, 17, 30)]) := ⟨lwT4 (List.mem_of_getElem? (i := 150) rfl), good_of_word rfl⟩
theorem tw707 : lwG (.selects RX6 yX6_distance yX6_distance) := ⟨lwT4 (List.mem_of_getElem? (i := 153) rfl), good_of_word rfl⟩
theorem tw708 : lwG (.instanceMethod yX6_distance) := ⟨lwT4 (List.mem_of_getElem? (i := 152) rfl), good_of_word rfl⟩
theorem tw709 : lwG (.methodLink RL 78 yX6_distance) := ⟨lwT4 (List.mem_of_getElem? (i := 151) rfl), good_of_word rfl⟩
theorem tw710 : lwG (.code yX6_distance cX6_distance 4 (some .int)) := ⟨lwT4 (List.mem_of_getElem? (i := 154) rfl), good_of_word rfl⟩
theorem tw711 : lwG (.methodLink RX6 196 yX1_measureFrom) := ⟨lwT2 (List.mem_of_getElem? (i := 128) rfl), good_of_word rfl⟩
theorem tw712 : lwG (.methodLink RX6 193 yX6_isJunction) := ⟨lwT4 (List.mem_of_getElem? (i := 155) rfl), good_of_word rfl⟩
theorem tw713 : lwG (.constant RX6 203 (1000000)) := ⟨lwT4 (List.mem_of_getElem? (i := 156) rfl), good_of_word rfl⟩
theorem tw714 : lwG (.methodLink RX6 200 yX1_reachOf) := ⟨lwT2 (List.mem_of_getElem? (i := 143) rfl), good_of_word rfl⟩
theorem tw715 : lwG (.selects RX7 yX7_distance yX7_distance) := ⟨lwT8 (List.mem_of_getElem? (i := 68) rfl), good_of_word rfl⟩
theorem tw716 : lwG (.instanceMethod yX7_distance) := ⟨lwT8 (List.mem_of_getElem? (i := 67) rfl), good_of_word rfl⟩
theorem tw717 : lwG (.methodLink RL 225 yX7_distance) := ⟨lwT8 (List.mem_of_getElem? (i := 66) rfl), good_of_word rfl⟩
theorem tw718 : lwG (.code yX7_distance cX7_distance 3 (some .int)) := ⟨lwT8 (List.mem_of_getElem? (i := 69) rfl), good_of_word rfl⟩
theorem tw719 : lwG (.static yL_distanceByJunctions) := ⟨lwT4 (List.mem_of_getElem? (i := 159) rfl), good_of_word rfl⟩
theorem tw720 : lwG (.methodLink RL 226 yL_distanceByJunctions) := ⟨lwT4 (List.mem_of_getElem? (i := 158) rfl), good_of_word rfl⟩
theorem tw721 : lwG (.codeWith yL_distanceByJunctions cL_distanceByJunctions 5 (some .int) [(0, 10, 13, 13), (0, 10, 17, 30)]) := ⟨lwT4 (List.mem_of_getElem? (i := 160) rfl), good_of_word rfl⟩
theorem tw722 : lwG (.selects RX6 yX6_distanceByJunctions yX6_distanceByJunctions) := ⟨lwT4 (List.mem_of_getElem? (i := 163) rfl), good_of_word rfl⟩
theorem tw723 : lwG (.instanceMethod yX6_distanceByJunctions) := ⟨lwT4 (List.mem_of_getElem? (i := 162) rfl), good_of_word rfl⟩
theorem tw724 : lwG (.methodLink RL 81 yX6_distanceByJunctions) := ⟨lwT4 (List.mem_of_getElem? (i := 161) rfl), good_of_word rfl⟩
theorem tw725 : lwG (.code yX6_distanceByJunctions cX6_distanceByJunctions 4 (some .int)) := ⟨lwT4 (List.mem_of_getElem? (i := 164) rfl), good_of_word rfl⟩
theorem tw726 : lwG (.methodLink RX1 55 yX1_link) := ⟨lwT2 (List.mem_of_getElem? (i := 113) rfl), good_of_word rfl⟩
theorem tw727 : lwG (.fieldLink RX1 52 "SnowDispatcher$Streets" "higher" "[I") := ⟨lwT1 (List.mem_of_getElem? (i := 75) rfl), good_of_word rfl⟩
theorem tw728 : lwG (.fieldLink RX1 49 "SnowDispatcher$Streets" "lower" "[I") := ⟨lwT1 (List.mem_of_getElem? (i := 71) rfl), good_of_word rfl⟩
theorem tw729 : lwG (.code yX1_improveAll cX1_improveAll 4 none) := ⟨lwT2 (List.mem_of_getElem? (i := 111) rfl), good_of_word rfl⟩
theorem tw730 : lwG (.selects RX1 yX1_improveAll yX1_improveAll) := ⟨lwT2 (List.mem_of_getElem? (i := 110) rfl), good_of_word rfl⟩
theorem tw731 : lwG (.instanceMethod yX1_improveAll) := ⟨lwT2 (List.mem_of_getElem? (i := 109) rfl), good_of_word rfl⟩
theorem tw732 : lwG (.methodLink RX6 206 yX1_improveAll) := ⟨lwT2 (List.mem_of_getElem? (i := 108) rfl), good_of_word rfl⟩
theorem tw733 : lwG (.methodLink RX6 210 yX1_between) := ⟨lwT2 (List.mem_of_getElem? (i := 147) rfl), good_of_word rfl⟩
theorem tw734 : lwG (.code yX1_between cX1_between 3 (some .int)) := ⟨lwT2 (List.mem_of_getElem? (i := 127) rfl), good_of_word rfl⟩
theorem tw735 : lwG (.selects RX1 yX1_between yX1_between) := ⟨lwT2 (List.mem_of_getElem? (i := 126) rfl), good_of_word rfl⟩
theorem tw736 : lwG (.instanceMethod yX1_between) := ⟨lwT2 (List.mem_of_getElem? (i := 125) rfl), good_of_word rfl⟩
theorem tw737 : lwG (.methodLink RX1 63 yX1_between) := ⟨lwT2 (List.mem_of_getElem? (i := 124) rfl), good_of_word rfl⟩
theorem tw738 : lwG (.code yX1_improveBy cX1_improveBy 5 none) := ⟨lwT2 (List.mem_of_getElem? (i := 123) rfl), good_of_word rfl⟩
theorem tw739 : lwG (.selects RX1 yX1_improveBy yX1_improveBy) := ⟨lwT0 (List.mem_of_getElem? (i := 2) rfl), good_of_word rfl⟩
theorem tw740 : lwG (.instanceMethod yX1_improveBy) := ⟨lwT2 (List.mem_of_getElem? (i := 122) rfl), good_of_word rfl⟩
theorem tw741 : lwG (.methodLink RX1 59 yX1_improveBy) := ⟨lwT2 (List.mem_of_getElem? (i := 120) rfl), good_of_word rfl⟩
theorem tw742 : lwG (.code yX1_link cX1_link 4 none) := ⟨lwT2 (List.mem_of_getElem? (i := 116) rfl), good_of_word rfl⟩
theorem tw743 : lwG (.selects RX1 yX1_link yX1_link) := ⟨lwT0 (List.mem_of_getElem? (i := 1) rfl), good_of_word rfl⟩
theorem tw744 : lwG (.instanceMethod yX1_link) := ⟨lwT2 (List.mem_of_getElem? (i := 115) rfl), good_of_word rfl⟩
theorem tw745 : lwG (.selects RX7 yX7_distanceByJunctions yX7_distanceByJunctions) := ⟨lwT8 (List.mem_of_getElem? (i := 72) rfl), good_of_word rfl⟩
theorem tw746 : lwG (.instanceMethod yX7_distanceByJunctions) := ⟨lwT8 (List.mem_of_getElem? (i := 71) rfl), good_of_word rfl⟩
theorem tw747 : lwG (.methodLink RL 228 yX7_distanceByJunctions) := ⟨lwT8 (List.mem_of_getElem? (i := 70) rfl), good_of_word rfl⟩
theorem tw748 : lwG (.code yX7_distanceByJunctions cX7_distanceByJunctions 3 (some .int)) := ⟨lwT8 (List.mem_of_getElem? (i := 73) rfl), good_of_word rfl⟩
theorem tw749 : lwG (.methodLink RX7 171 yX7_distance) := ⟨lwT8 (List.mem_of_getElem? (i := 74) rfl), good_of_word rfl⟩
theorem tw750 : lwG (.static yL_streetByUrgency) := ⟨lwT4 (List.mem_of_getElem? (i := 166) rfl), good_of_word rfl⟩
theorem tw751 : lwG (.methodLink RL 229 yL_streetByUrgency) := ⟨lwT4 (List.mem_of_getElem? (i := 165) rfl), good_of_word rfl⟩
theorem tw752 : lwG (.codeWith yL_streetByUrgency cL_streetByUrgency 4 (some .int) [(0, 9, 12, 30)]) := ⟨lwT4 (List.mem_of_getElem? (i := 167) rfl), good_of_word rfl⟩
theorem tw753 : lwG (.selects RX6 yX6_streetByUrgency yX6_streetByUrgency) := ⟨lwT4 (List.mem_of_getElem? (i := 170) rfl), good_of_word rfl⟩
theorem tw754 : lwG (.instanceMethod yX6_streetByUrgency) := ⟨lwT4 (List.mem_of_getElem? (i := 169) rfl), good_of_word rfl⟩
theorem tw755 : lwG (.methodLink RL 84 yX6_streetByUrgency) := ⟨lwT4 (List.mem_of_getElem? (i := 168) rfl), good_of_word rfl⟩
theorem tw756 : lwG (.code yX6_streetByUrgency cX6_streetByUrgency 3 (some .int)) := ⟨lwT4 (List.mem_of_getElem? (i := 171) rfl), good_of_word rfl⟩
theorem tw757 : lwG (.code yX4_precedes cX4_precedes 3 (some .boolean)) := ⟨lwT4 (List.mem_of_getElem? (i := 183) rfl), good_of_word rfl⟩
theorem tw758 : lwG (.selects RX4 yX4_precedes yX4_precedes) := ⟨lwT0 (List.mem_of_getElem? (i := 10) rfl), good_of_word rfl⟩
theorem tw759 : lwG (.instanceMethod yX4_precedes) := ⟨lwT4 (List.mem_of_getElem? (i := 182) rfl), good_of_word rfl⟩
theorem tw760 : lwG (.methodLink RX4 55 yX4_precedes) := ⟨lwT4 (List.mem_of_getElem? (i := 180) rfl), good_of_word rfl⟩
theorem tw761 : lwG (.code yX4_rankOf cX4_rankOf 4 (some .int)) := ⟨lwT4 (List.mem_of_getElem? (i := 179) rfl), good_of_word rfl⟩
theorem tw762 : lwG (.selects RX4 yX4_rankOf yX4_rankOf) := ⟨lwT0 (List.mem_of_getElem? (i := 9) rfl), good_of_word rfl⟩
theorem tw763 : lwG (.instanceMethod yX4_rankOf) := ⟨lwT4 (List.mem_of_getElem? (i := 178) rfl), good_of_word rfl⟩
theorem tw764 : lwG (.methodLink RX4 51 yX4_rankOf) := ⟨lwT4 (List.mem_of_getElem? (i := 176) rfl), good_of_word rfl⟩
theorem tw765 : lwG (.code yX4_atRank cX4_atRank 3 (some .int)) := ⟨lwT4 (List.mem_of_getElem? (i := 175) rfl), good_of_word rfl⟩
theorem tw766 : lwG (.selects RX4 yX4_atRank yX4_atRank) := ⟨lwT4 (List.mem_of_getElem? (i := 174) rfl), good_of_word rfl⟩
theorem tw767 : lwG (.instanceMethod yX4_atRank) := ⟨lwT4 (List.mem_of_getElem? (i := 173) rfl), good_of_word rfl⟩
theorem tw768 : lwG (.methodLink RX6 213 yX4_atRank) := ⟨lwT4 (List.mem_of_getElem? (i := 172) rfl), good_of_word rfl⟩
theorem tw769 : lwG (.selects RX7 yX7_streetByUrgency yX7_streetByUrgency) := ⟨lwT8 (List.mem_of_getElem? (i := 77) rfl), good_of_word rfl⟩
theorem tw770 : lwG (.instanceMethod yX7_streetByUrgency) := ⟨lwT8 (List.mem_of_getElem? (i := 76) rfl), good_of_word rfl⟩
theorem tw771 : lwG (.methodLink RL 231 yX7_streetByUrgency) := ⟨lwT8 (List.mem_of_getElem? (i := 75) rfl), good_of_word rfl⟩
theorem tw772 : lwG (.code yX7_streetByUrgency cX7_streetByUrgency 5 (some .int)) := ⟨lwT8 (List.mem_of_getElem? (i := 78) rfl), good_of_word rfl⟩
theorem tw773 : lwG (.code yX7_isAhead cX7_isAhead 5 (some .boolean)) := ⟨lwT8 (List.mem_of_getElem? (i := 82) rfl), good_of_word rfl⟩
theorem tw774 : lwG (.selects RX7 yX7_isAhead yX7_isAhead) := ⟨lwT0 (List.mem_of_getElem? (i := 48) rfl), good_of_word rfl⟩
theorem tw775 : lwG (.instanceMethod yX7_isAhead) := ⟨lwT8 (List.mem_of_getElem? (i := 81) rfl), good_of_word rfl⟩
theorem tw776 : lwG (.methodLink RX7 174 yX7_isAhead) := ⟨lwT8 (List.mem_of_getElem? (i := 79) rfl), good_of_word rfl⟩
theorem tw777 : lwG (.selects RX6 yX6_ploughCount yX6_ploughCount) := ⟨lwT2 (List.mem_of_getElem? (i := 66) rfl), good_of_word rfl⟩
theorem tw778 : lwG (.instanceMethod yX6_ploughCount) := ⟨lwT2 (List.mem_of_getElem? (i := 65) rfl), good_of_word rfl⟩
theorem tw779 : lwG (.methodLink RL 232 yX6_ploughCount) := ⟨lwT2 (List.mem_of_getElem? (i := 64) rfl), good_of_word rfl⟩
theorem tw780 : lwG (.code yX6_ploughCount cX6_ploughCount 1 (some .int)) := ⟨lwT2 (List.mem_of_getElem? (i := 67) rfl), good_of_word rfl⟩
theorem tw781 : lwG (.fieldLink RX6 222 "SnowDispatcher$Ploughs" "count" "I") := ⟨lwT1 (List.mem_of_getElem? (i := 134) rfl), good_of_word rfl⟩
theorem tw782 : lwG (.fieldLink RX6 218 "SnowDispatcher$Town" "ploughs" "LSnowDispatcher$Ploughs;") := ⟨lwT1 (List.mem_of_getElem? (i := 152) rfl), good_of_word rfl⟩
theorem tw783 : lwG (.selects RX7 yX7_ploughCount yX7_ploughCount) := ⟨lwT8 (List.mem_of_getElem? (i := 85) rfl), good_of_word rfl⟩
theorem tw784 : lwG (.instanceMethod yX7_ploughCount) := ⟨lwT8 (List.mem_of_getElem? (i := 84) rfl), good_of_word rfl⟩
theorem tw785 : lwG (.methodLink RL 235 yX7_ploughCount) := ⟨lwT8 (List.mem_of_getElem? (i := 83) rfl), good_of_word rfl⟩
theorem tw786 : lwG (.code yX7_ploughCount cX7_ploughCount 1 (some .int)) := ⟨lwT8 (List.mem_of_getElem? (i := 86) rfl), good_of_word rfl⟩
theorem tw787 : lwG (.static yL_isBusy) := ⟨lwT4 (List.mem_of_getElem? (i := 186) rfl), good_of_word rfl⟩
theorem tw788 : lwG (.methodLink RL 236 yL_isBusy) := ⟨lwT4 (List.mem_of_getElem? (i := 185) rfl), good_of_word rfl⟩
theorem tw789 : lwG (.codeWith yL_isBusy cL_isBusy 4 (some .int) [(0, 16, 19, 13)]) := ⟨lwT4 (List.mem_of_getElem? (i := 187) rfl), good_of_word rfl⟩
theorem tw790 : lwG (.selects RX6 yX6_isBusy yX6_isBusy) := ⟨lwT4 (List.mem_of_getElem? (i := 190) rfl), good_of_word rfl⟩
theorem tw791 : lwG (.instanceMethod yX6_isBusy) := ⟨lwT4 (List.mem_of_getElem? (i := 189) rfl), good_of_word rfl⟩
theorem tw792 : lwG (.methodLink RL 87 yX6_isBusy) := ⟨lwT4 (List.mem_of_getElem? (i := 188) rfl), good_of_word rfl⟩
theorem tw793 : lwG (.code yX6_isBusy cX6_isBusy 2 (some .boolean)) := ⟨lwT4 (List.mem_of_getElem? (i := 191) rfl), good_of_word rfl⟩
theorem tw794 : lwG (.methodLink RX6 225 yX2_has) := ⟨lwT4 (List.mem_of_getElem? (i := 192) rfl), good_of_word rfl⟩
theorem tw795 : lwG (.fieldLink RX6 226 "SnowDispatcher$Ploughs" "minutesLeft" "[I") := ⟨lwT1 (List.mem_of_getElem? (i := 128) rfl), good_of_word rfl⟩
theorem tw796 : lwG (.selects RX7 yX7_isBusy yX7_isBusy) := ⟨lwT8 (List.mem_of_getElem? (i := 89) rfl), good_of_word rfl⟩
theorem tw797 : lwG (.instanceMethod yX7_isBusy) := ⟨lwT8 (List.mem_of_getElem? (i := 88) rfl), good_of_word rfl⟩
theorem tw798 : lwG (.methodLink RL 238 yX7_isBusy) := ⟨lwT8 (List.mem_of_getElem? (i := 87) rfl), good_of_word rfl⟩
theorem tw799 : lwG (.code yX7_isBusy cX7_isBusy 2 (some .boolean)) := ⟨lwT8 (List.mem_of_getElem? (i := 90) rfl), good_of_word rfl⟩
theorem tw800 : lwG (.code yX7_tellsPlough cX7_tellsPlough 3 (some .int)) := ⟨lwT8 (List.mem_of_getElem? (i := 94) rfl), good_of_word rfl⟩
theorem tw801 : lwG (.selects RX7 yX7_tellsPlough yX7_tellsPlough) := ⟨lwT0 (List.mem_of_getElem? (i := 49) rfl), good_of_word rfl⟩
theorem tw802 : lwG (.instanceMethod yX7_tellsPlough) := ⟨lwT8 (List.mem_of_getElem? (i := 93) rfl), good_of_word rfl⟩
theorem tw803 : lwG (.methodLink RX7 177 yX7_tellsPlough) := ⟨lwT8 (List.mem_of_getElem? (i := 91) rfl), good_of_word rfl⟩
theorem tw804 : lwG (.static yL_junction) := ⟨lwT4 (List.mem_of_getElem? (i := 194) rfl), good_of_word rfl⟩
theorem tw805 : lwG (.methodLink RL 239 yL_junction) := ⟨lwT4 (List.mem_of_getElem? (i := 193) rfl), good_of_word rfl⟩
theorem tw806 : lwG (.codeWith yL_junction cL_junction 4 (some .int) [(0, 9, 12, 13)]) := ⟨lwT4 (List.mem_of_getElem? (i := 195) rfl), good_of_word rfl⟩
theorem tw807 : lwG (.selects RX6 yX6_junction yX6_junction) := ⟨lwT4 (List.mem_of_getElem? (i := 198) rfl), good_of_word rfl⟩
theorem tw808 : lwG (.instanceMethod yX6_junction) := ⟨lwT4 (List.mem_of_getElem? (i := 197) rfl), good_of_word rfl⟩
theorem tw809 : lwG (.methodLink RL 90 yX6_junction) := ⟨lwT4 (List.mem_of_getElem? (i := 196) rfl), good_of_word rfl⟩
theorem tw810 : lwG (.code yX6_junction cX6_junction 2 (some .int)) := ⟨lwT4 (List.mem_of_getElem? (i := 199) rfl), good_of_word rfl⟩
theorem tw811 : lwG (.fieldLink RX6 229 "SnowDispatcher$Ploughs" "place" "[I") := ⟨lwT1 (List.mem_of_getElem? (i := 124) rfl), good_of_word rfl⟩
theorem tw812 : lwG (.selects RX7 yX7_junction yX7_junction) := ⟨lwT8 (List.mem_of_getElem? (i := 97) rfl), good_of_word rfl⟩
theorem tw813 : lwG (.instanceMethod yX7_junction) := ⟨lwT8 (List.mem_of_getElem? (i := 96) rfl), good_of_word rfl⟩
theorem tw814 : lwG (.methodLink RL 241 yX7_junction) := ⟨lwT8 (List.mem_of_getElem? (i := 95) rfl), good_of_word rfl⟩
theorem tw815 : lwG (.code yX7_junction cX7_junction 2 (some .int)) := ⟨lwT8 (List.mem_of_getElem? (i := 98) rfl), good_of_word rfl⟩
theorem tw816 : lwG (.static yL_currentStreet) := ⟨lwT4 (List.mem_of_getElem? (i := 201) rfl), good_of_word rfl⟩
theorem tw817 : lwG (.methodLink RL 242 yL_currentStreet) := ⟨lwT4 (List.mem_of_getElem? (i := 200) rfl), good_of_word rfl⟩
theorem tw818 : lwG (.codeWith yL_currentStreet cL_currentStreet 4 (some .int) [(0, 9, 12, 13), (0, 9, 15, 30)]) := ⟨lwT4 (List.mem_of_getElem? (i := 202) rfl), good_of_word rfl⟩
theorem tw819 : lwG (.selects RX6 yX6_currentStreet yX6_currentStreet) := ⟨lwT4 (List.mem_of_getElem? (i := 205) rfl), good_of_word rfl⟩
theorem tw820 : lwG (.instanceMethod yX6_currentStreet) := ⟨lwT4 (List.mem_of_getElem? (i := 204) rfl), good_of_word rfl⟩
theorem tw821 : lwG (.methodLink RL 93 yX6_currentStreet) := ⟨lwT4 (List.mem_of_getElem? (i := 203) rfl), good_of_word rfl⟩
theorem tw822 : lwG (.code yX6_currentStreet cX6_currentStreet 2 (some .int)) := ⟨lwT4 (List.mem_of_getElem? (i := 206) rfl), good_of_word rfl⟩
theorem tw823 : lwG (.fieldLink RX6 234 "SnowDispatcher$Ploughs" "target" "[I") := ⟨lwT1 (List.mem_of_getElem? (i := 126) rfl), good_of_word rfl⟩
theorem tw824 : lwG (.selects RX7 yX7_currentStreet yX7_currentStreet) := ⟨lwT8 (List.mem_of_getElem? (i := 101) rfl), good_of_word rfl⟩
theorem tw825 : lwG (.instanceMethod yX7_currentStreet) := ⟨lwT8 (List.mem_of_getElem? (i := 100) rfl), good_of_word rfl⟩
theorem tw826 : lwG (.methodLink RL 244 yX7_currentStreet) := ⟨lwT8 (List.mem_of_getElem? (i := 99) rfl), good_of_word rfl⟩
theorem tw827 : lwG (.code yX7_currentStreet cX7_currentStreet 2 (some .int)) := ⟨lwT8 (List.mem_of_getElem? (i := 102) rfl), good_of_word rfl⟩
theorem tw828 : lwG (.static yL_busyMinutes) := ⟨lwT4 (List.mem_of_getElem? (i := 209) rfl), good_of_word rfl⟩
theorem tw829 : lwG (.methodLink RL 245 yL_busyMinutes) := ⟨lwT4 (List.mem_of_getElem? (i := 208) rfl), good_of_word rfl⟩
theorem tw830 : lwG (.codeWith yL_busyMinutes cL_busyMinutes 4 (some .int) [(0, 9, 12, 13)]) := ⟨lwT4 (List.mem_of_getElem? (i := 210) rfl), good_of_word rfl⟩
theorem tw831 : lwG (.selects RX6 yX6_busyMinutes yX6_busyMinutes) := ⟨lwT4 (List.mem_of_getElem? (i := 213) rfl), good_of_word rfl⟩
theorem tw832 : lwG (.instanceMethod yX6_busyMinutes) := ⟨lwT4 (List.mem_of_getElem? (i := 212) rfl), good_of_word rfl⟩
theorem tw833 : lwG (.methodLink RL 96 yX6_busyMinutes) := ⟨lwT4 (List.mem_of_getElem? (i := 211) rfl), good_of_word rfl⟩
theorem tw834 : lwG (.code yX6_busyMinutes cX6_busyMinutes 2 (some .int)) := ⟨lwT4 (List.mem_of_getElem? (i := 214) rfl), good_of_word rfl⟩
theorem tw835 : lwG (.selects RX7 yX7_busyMinutes yX7_busyMinutes) := ⟨lwT8 (List.mem_of_getElem? (i := 105) rfl), good_of_word rfl⟩
theorem tw836 : lwG (.instanceMethod yX7_busyMinutes) := ⟨lwT8 (List.mem_of_getElem? (i := 104) rfl), good_of_word rfl⟩
theorem tw837 : lwG (.methodLink RL 247 yX7_busyMinutes) := ⟨lwT8 (List.mem_of_getElem? (i := 103) rfl), good_of_word rfl⟩
theorem tw838 : lwG (.code yX7_busyMinutes cX7_busyMinutes 2 (some .int)) := ⟨lwT8 (List.mem_of_getElem? (i := 106) rfl), good_of_word rfl⟩
theorem tw839 : lwG (.static yL_queueLength) := ⟨lwT4 (List.mem_of_getElem? (i := 216) rfl), good_of_word rfl⟩
theorem tw840 : lwG (.methodLink RL 248 yL_queueLength) := ⟨lwT4 (List.mem_of_getElem? (i := 215) rfl), good_of_word rfl⟩
theorem tw841 : lwG (.codeWith yL_queueLength cL_queueLength 4 (some .int) [(0, 9, 12, 13)]) := ⟨lwT4 (List.mem_of_getElem? (i := 217) rfl), good_of_word rfl⟩
theorem tw842 : lwG (.selects RX6 yX6_queueLength yX6_queueLength) := ⟨lwT4 (List.mem_of_getElem? (i := 220) rfl), good_of_word rfl⟩
theorem tw843 : lwG (.instanceMethod yX6_queueLength) := ⟨lwT4 (List.mem_of_getElem? (i := 219) rfl), good_of_word rfl⟩
theorem tw844 : lwG (.methodLink RL 99 yX6_queueLength) := ⟨lwT4 (List.mem_of_getElem? (i := 218) rfl), good_of_word rfl⟩
theorem tw845 : lwG (.code yX6_queueLength cX6_queueLength 2 (some .int)) := ⟨lwT4 (List.mem_of_getElem? (i := 221) rfl), good_of_word rfl⟩
theorem tw846 : lwG (.fieldLink RX6 237 "SnowDispatcher$Ploughs" "waiting" "[I") := ⟨lwT1 (List.mem_of_getElem? (i := 130) rfl), good_of_word rfl⟩
theorem tw847 : lwG (.selects RX7 yX7_queueLength yX7_queueLength) := ⟨lwT8 (List.mem_of_getElem? (i := 109) rfl), good_of_word rfl⟩
theorem tw848 : lwG (.instanceMethod yX7_queueLength) := ⟨lwT8 (List.mem_of_getElem? (i := 108) rfl), good_of_word rfl⟩
theorem tw849 : lwG (.methodLink RL 250 yX7_queueLength) := ⟨lwT8 (List.mem_of_getElem? (i := 107) rfl), good_of_word rfl⟩
theorem tw850 : lwG (.code yX7_queueLength cX7_queueLength 2 (some .int)) := ⟨lwT8 (List.mem_of_getElem? (i := 110) rfl), good_of_word rfl⟩
theorem tw851 : lwG (.static yL_queuedStreet) := ⟨lwT4 (List.mem_of_getElem? (i := 223) rfl), good_of_word rfl⟩
theorem tw852 : lwG (.methodLink RL 251 yL_queuedStreet) := ⟨lwT4 (List.mem_of_getElem? (i := 222) rfl), good_of_word rfl⟩
theorem tw853 : lwG (.codeWith yL_queuedStreet cL_queuedStreet 5 (some .int) [(0, 10, 13, 13), (0, 10, 17, 30)]) := ⟨lwT4 (List.mem_of_getElem? (i := 224) rfl), good_of_word rfl⟩
theorem tw854 : lwG (.selects RX6 yX6_queuedStreet yX6_queuedStreet) := ⟨lwT4 (List.mem_of_getElem? (i := 227) rfl), good_of_word rfl⟩
theorem tw855 : lwG (.instanceMethod yX6_queuedStreet) := ⟨lwT4 (List.mem_of_getElem? (i := 226) rfl), good_of_word rfl⟩
theorem tw856 : lwG (.methodLink RL 102 yX6_queuedStreet) := ⟨lwT4 (List.mem_of_getElem? (i := 225) rfl), good_of_word rfl⟩
theorem tw857 : lwG (.code yX6_queuedStreet cX6_queuedStreet 4 (some .int)) := ⟨lwT4 (List.mem_of_getElem? (i := 228) rfl), good_of_word rfl⟩
theorem tw858 : lwG (.methodLink RX6 240 yX2_waitingAt) := ⟨lwT4 (List.mem_of_getElem? (i := 229) rfl), good_of_word rfl⟩
theorem tw859 : lwG (.selects RX7 yX7_queuedStreet yX7_queuedStreet) := ⟨lwT8 (List.mem_of_getElem? (i := 113) rfl), good_of_word rfl⟩
theorem tw860 : lwG (.instanceMethod yX7_queuedStreet) := ⟨lwT8 (List.mem_of_getElem? (i := 112) rfl), good_of_word rfl⟩
theorem tw861 : lwG (.methodLink RL 253 yX7_queuedStreet) := ⟨lwT8 (List.mem_of_getElem? (i := 111) rfl), good_of_word rfl⟩
theorem tw862 : lwG (.code yX7_queuedStreet cX7_queuedStreet 3 (some .int)) := ⟨lwT8 (List.mem_of_getElem? (i := 114) rfl), good_of_word rfl⟩
theorem tw863 : lwG (.static yL_orderMinutes) := ⟨lwT4 (List.mem_of_getElem? (i := 232) rfl), good_of_word rfl⟩
theorem tw864 : lwG (.methodLink RL 254 yL_orderMinutes) := ⟨lwT4 (List.mem_of_getElem? (i := 231) rfl), good_of_word rfl⟩
theorem tw865 : lwG (.codeWith yL_orderMinutes cL_orderMinutes 5 (some .int) [(0, 10, 13, 13), (0, 10, 17, 30)]) := ⟨lwT4 (List.mem_of_getElem? (i := 233) rfl), good_of_word rfl⟩
theorem tw866 : lwG (.selects RX6 yX6_orderMinutes yX6_orderMinutes) := ⟨lwT4 (List.mem_of_getElem? (i := 236) rfl), good_of_word rfl⟩
theorem tw867 : lwG (.instanceMethod yX6_orderMinutes) := ⟨lwT4 (List.mem_of_getElem? (i := 235) rfl), good_of_word rfl⟩
theorem tw868 : lwG (.methodLink RL 105 yX6_orderMinutes) := ⟨lwT4 (List.mem_of_getElem? (i := 234) rfl), good_of_word rfl⟩
theorem tw869 : lwG (.code yX6_orderMinutes cX6_orderMinutes 4 (some .int)) := ⟨lwT4 (List.mem_of_getElem? (i := 237) rfl), good_of_word rfl⟩
theorem tw870 : lwG (.methodLink RX6 245 yX5_minutesFor) := ⟨lwT4 (List.mem_of_getElem? (i := 238) rfl), good_of_word rfl⟩
theorem tw871 : lwG (.selects RX7 yX7_orderMinutes yX7_orderMinutes) := ⟨lwT8 (List.mem_of_getElem? (i := 117) rfl), good_of_word rfl⟩
theorem tw872 : lwG (.instanceMethod yX7_orderMinutes) := ⟨lwT8 (List.mem_of_getElem? (i := 116) rfl), good_of_word rfl⟩
theorem tw873 : lwG (.methodLink RL 256 yX7_orderMinutes) := ⟨lwT8 (List.mem_of_getElem? (i := 115) rfl), good_of_word rfl⟩
theorem tw874 : lwG (.code yX7_orderMinutes cX7_orderMinutes 4 (some .int)) := ⟨lwT8 (List.mem_of_getElem? (i := 118) rfl), good_of_word rfl⟩
theorem tw875 : lwG (.static yL_minutesUntilCleared) := ⟨lwT5 (List.mem_of_getElem? (i := 1) rfl), good_of_word rfl⟩
theorem tw876 : lwG (.methodLink RL 257 yL_minutesUntilCleared) := ⟨lwT5 (List.mem_of_getElem? (i := 0) rfl), good_of_word rfl⟩
theorem tw877 : lwG (.codeWith yL_minutesUntilCleared cL_minutesUntilCleared 4 (some .int) [(0, 9, 12, 13), (0, 9, 15, 30)]) := ⟨lwT5 (List.mem_of_getElem? (i := 2) rfl), good_of_word rfl⟩
theorem tw878 : lwG (.selects RX6 yX6_minutesUntilCleared yX6_minutesUntilCleared) := ⟨lwT5 (List.mem_of_getElem? (i := 5) rfl), good_of_word rfl⟩
theorem tw879 : lwG (.instanceMethod yX6_minutesUntilCleared) := ⟨lwT5 (List.mem_of_getElem? (i := 4) rfl), good_of_word rfl⟩
theorem tw880 : lwG (.methodLink RL 108 yX6_minutesUntilCleared) := ⟨lwT5 (List.mem_of_getElem? (i := 3) rfl), good_of_word rfl⟩
theorem tw881 : lwG (.code yX6_minutesUntilCleared cX6_minutesUntilCleared 3 (some .int)) := ⟨lwT5 (List.mem_of_getElem? (i := 6) rfl), good_of_word rfl⟩
theorem tw882 : lwG (.methodLink RX6 255 yX5_copyFrom) := ⟨lwT2 (List.mem_of_getElem? (i := 160) rfl), good_of_word rfl⟩
theorem tw883 : lwG (.code yX6_foretellClearing cX6_foretellClearing 4 (some .int)) := ⟨lwT5 (List.mem_of_getElem? (i := 10) rfl), good_of_word rfl⟩
theorem tw884 : lwG (.selects RX6 yX6_foretellClearing yX6_foretellClearing) := ⟨lwT0 (List.mem_of_getElem? (i := 11) rfl), good_of_word rfl⟩
theorem tw885 : lwG (.instanceMethod yX6_foretellClearing) := ⟨lwT5 (List.mem_of_getElem? (i := 9) rfl), good_of_word rfl⟩
theorem tw886 : lwG (.methodLink RX6 250 yX6_foretellClearing) := ⟨lwT5 (List.mem_of_getElem? (i := 7) rfl), good_of_word rfl⟩
theorem tw887 : lwG (.code yX4_timesCleared cX4_timesCleared 2 (some .int)) := ⟨lwT5 (List.mem_of_getElem? (i := 14) rfl), good_of_word rfl⟩
theorem tw888 : lwG (.selects RX4 yX4_timesCleared yX4_timesCleared) := ⟨lwT5 (List.mem_of_getElem? (i := 13) rfl), good_of_word rfl⟩
theorem tw889 : lwG (.instanceMethod yX4_timesCleared) := ⟨lwT5 (List.mem_of_getElem? (i := 12) rfl), good_of_word rfl⟩
theorem tw890 : lwG (.methodLink RX6 258 yX4_timesCleared) := ⟨lwT5 (List.mem_of_getElem? (i := 11) rfl), good_of_word rfl⟩
theorem tw891 : lwG (.selects RX7 yX7_minutesUntilCleared yX7_minutesUntilCleared) := ⟨lwT8 (List.mem_of_getElem? (i := 121) rfl), good_of_word rfl⟩
theorem tw892 : lwG (.instanceMethod yX7_minutesUntilCleared) := ⟨lwT8 (List.mem_of_getElem? (i := 120) rfl), good_of_word rfl⟩
theorem tw893 : lwG (.methodLink RL 259 yX7_minutesUntilCleared) := ⟨lwT8 (List.mem_of_getElem? (i := 119) rfl), good_of_word rfl⟩
theorem tw894 : lwG (.code yX7_minutesUntilCleared cX7_minutesUntilCleared 3 (some .int)) := ⟨lwT8 (List.mem_of_getElem? (i := 122) rfl), good_of_word rfl⟩
theorem tw895 : lwG (.static yL_depthAfter) := ⟨lwT5 (List.mem_of_getElem? (i := 17) rfl), good_of_word rfl⟩
theorem tw896 : lwG (.methodLink RL 260 yL_depthAfter) := ⟨lwT5 (List.mem_of_getElem? (i := 16) rfl), good_of_word rfl⟩
theorem tw897 : lwG (.codeWith yL_depthAfter cL_depthAfter 5 (some .int) [(0, 10, 13, 13), (0, 10, 17, 15)]) := ⟨lwT5 (List.mem_of_getElem? (i := 18) rfl), good_of_word rfl⟩
theorem tw898 : lwG (.selects RX6 yX6_depthAfter yX6_depthAfter) := ⟨lwT5 (List.mem_of_getElem? (i := 21) rfl), good_of_word rfl⟩
theorem tw899 : lwG (.instanceMethod yX6_depthAfter) := ⟨lwT5 (List.mem_of_getElem? (i := 20) rfl), good_of_word rfl⟩
theorem tw900 : lwG (.methodLink RL 111 yX6_depthAfter) := ⟨lwT5 (List.mem_of_getElem? (i := 19) rfl), good_of_word rfl⟩
theorem tw901 : lwG (.code yX6_depthAfter cX6_depthAfter 3 (some .int)) := ⟨lwT5 (List.mem_of_getElem? (i := 22) rfl), good_of_word rfl⟩
theorem tw902 : lwG (.selects RX7 yX7_depthAfter yX7_depthAfter) := ⟨lwT8 (List.mem_of_getElem? (i := 125) rfl), good_of_word rfl⟩
theorem tw903 : lwG (.instanceMethod yX7_depthAfter) := ⟨lwT8 (List.mem_of_getElem? (i := 124) rfl), good_of_word rfl⟩
theorem tw904 : lwG (.methodLink RL 262 yX7_depthAfter) := ⟨lwT8 (List.mem_of_getElem? (i := 123) rfl), good_of_word rfl⟩
theorem tw905 : lwG (.code yX7_depthAfter cX7_depthAfter 4 (some .int)) := ⟨lwT8 (List.mem_of_getElem? (i := 126) rfl), good_of_word rfl⟩
theorem tw906 : lwG (.selects RX6 yX6_time yX6_time) := ⟨lwT2 (List.mem_of_getElem? (i := 70) rfl), good_of_word rfl⟩
theorem tw907 : lwG (.instanceMethod yX6_time) := ⟨lwT2 (List.mem_of_getElem? (i := 69) rfl), good_of_word rfl⟩
theorem tw908 : lwG (.methodLink RL 263 yX6_time) := ⟨lwT2 (List.mem_of_getElem? (i := 68) rfl), good_of_word rfl⟩
theorem tw909 : lwG (.code yX6_time cX6_time 1 (some .int)) := ⟨lwT2 (List.mem_of_getElem? (i := 71) rfl), good_of_word rfl⟩
theorem tw910 : lwG (.selects RX7 yX7_time yX7_time) := ⟨lwT8 (List.mem_of_getElem? (i := 129) rfl), good_of_word rfl⟩
theorem tw911 : lwG (.instanceMethod yX7_time) := ⟨lwT8 (List.mem_of_getElem? (i := 128) rfl), good_of_word rfl⟩
theorem tw912 : lwG (.methodLink RL 266 yX7_time) := ⟨lwT8 (List.mem_of_getElem? (i := 127) rfl), good_of_word rfl⟩
theorem tw913 : lwG (.code yX7_time cX7_time 1 (some .int)) := ⟨lwT8 (List.mem_of_getElem? (i := 130) rfl), good_of_word rfl⟩
theorem tw914 : lwG (.selects RX6 yX6_saltStore yX6_saltStore) := ⟨lwT2 (List.mem_of_getElem? (i := 74) rfl), good_of_word rfl⟩
theorem tw915 : lwG (.instanceMethod yX6_saltStore) := ⟨lwT2 (List.mem_of_getElem? (i := 73) rfl), good_of_word rfl⟩
theorem tw916 : lwG (.methodLink RL 267 yX6_saltStore) := ⟨lwT2 (List.mem_of_getElem? (i := 72) rfl), good_of_word rfl⟩
theorem tw917 : lwG (.code yX6_saltStore cX6_saltStore 1 (some .int)) := ⟨lwT2 (List.mem_of_getElem? (i := 75) rfl), good_of_word rfl⟩
theorem tw918 : lwG (.fieldLink RX6 263 "SnowDispatcher$Town" "store" "I") := ⟨lwT1 (List.mem_of_getElem? (i := 156) rfl), good_of_word rfl⟩
theorem tw919 : lwG (.selects RX7 yX7_saltStore yX7_saltStore) := ⟨lwT8 (List.mem_of_getElem? (i := 133) rfl), good_of_word rfl⟩
theorem tw920 : lwG (.instanceMethod yX7_saltStore) := ⟨lwT8 (List.mem_of_getElem? (i := 132) rfl), good_of_word rfl⟩
theorem tw921 : lwG (.methodLink RL 270 yX7_saltStore) := ⟨lwT8 (List.mem_of_getElem? (i := 131) rfl), good_of_word rfl⟩
theorem tw922 : lwG (.code yX7_saltStore cX7_saltStore 1 (some .int)) := ⟨lwT8 (List.mem_of_getElem? (i := 134) rfl), good_of_word rfl⟩
theorem tw923 : lwG (.selects RX6 yX6_snowfall yX6_snowfall) := ⟨lwT2 (List.mem_of_getElem? (i := 78) rfl), good_of_word rfl⟩
theorem tw924 : lwG (.instanceMethod yX6_snowfall) := ⟨lwT2 (List.mem_of_getElem? (i := 77) rfl), good_of_word rfl⟩
theorem tw925 : lwG (.methodLink RL 271 yX6_snowfall) := ⟨lwT2 (List.mem_of_getElem? (i := 76) rfl), good_of_word rfl⟩
theorem tw926 : lwG (.code yX6_snowfall cX6_snowfall 1 (some .int)) := ⟨lwT2 (List.mem_of_getElem? (i := 79) rfl), good_of_word rfl⟩
theorem tw927 : lwG (.fieldLink RX6 266 "SnowDispatcher$Town" "rate" "I") := ⟨lwT1 (List.mem_of_getElem? (i := 158) rfl), good_of_word rfl⟩
theorem tw928 : lwG (.selects RX7 yX7_snowfall yX7_snowfall) := ⟨lwT8 (List.mem_of_getElem? (i := 137) rfl), good_of_word rfl⟩
theorem tw929 : lwG (.instanceMethod yX7_snowfall) := ⟨lwT8 (List.mem_of_getElem? (i := 136) rfl), good_of_word rfl⟩
theorem tw930 : lwG (.methodLink RL 274 yX7_snowfall) := ⟨lwT8 (List.mem_of_getElem? (i := 135) rfl), good_of_word rfl⟩
theorem tw931 : lwG (.code yX7_snowfall cX7_snowfall 1 (some .int)) := ⟨lwT8 (List.mem_of_getElem? (i := 138) rfl), good_of_word rfl⟩
theorem tw932 : lwG (.selects RX6 yX6_wind yX6_wind) := ⟨lwT2 (List.mem_of_getElem? (i := 82) rfl), good_of_word rfl⟩
theorem tw933 : lwG (.instanceMethod yX6_wind) := ⟨lwT2 (List.mem_of_getElem? (i := 81) rfl), good_of_word rfl⟩
theorem tw934 : lwG (.methodLink RL 275 yX6_wind) := ⟨lwT2 (List.mem_of_getElem? (i := 80) rfl), good_of_word rfl⟩
theorem tw935 : lwG (.code yX6_wind cX6_wind 1 (some .int)) := ⟨lwT2 (List.mem_of_getElem? (i := 83) rfl), good_of_word rfl⟩
theorem tw936 : lwG (.fieldLink RX6 269 "SnowDispatcher$Town" "force" "I") := ⟨lwT1 (List.mem_of_getElem? (i := 160) rfl), good_of_word rfl⟩
theorem tw937 : lwG (.selects RX7 yX7_wind yX7_wind) := ⟨lwT8 (List.mem_of_getElem? (i := 141) rfl), good_of_word rfl⟩
theorem tw938 : lwG (.instanceMethod yX7_wind) := ⟨lwT8 (List.mem_of_getElem? (i := 140) rfl), good_of_word rfl⟩
theorem tw939 : lwG (.methodLink RL 278 yX7_wind) := ⟨lwT8 (List.mem_of_getElem? (i := 139) rfl), good_of_word rfl⟩
theorem tw940 : lwG (.code yX7_wind cX7_wind 1 (some .int)) := ⟨lwT8 (List.mem_of_getElem? (i := 142) rfl), good_of_word rfl⟩
theorem tw941 : lwG (.selects RX6 yX6_clearedTotal yX6_clearedTotal) := ⟨lwT2 (List.mem_of_getElem? (i := 86) rfl), good_of_word rfl⟩
theorem tw942 : lwG (.instanceMethod yX6_clearedTotal) := ⟨lwT2 (List.mem_of_getElem? (i := 85) rfl), good_of_word rfl⟩
theorem tw943 : lwG (.methodLink RL 279 yX6_clearedTotal) := ⟨lwT2 (List.mem_of_getElem? (i := 84) rfl), good_of_word rfl⟩
theorem tw944 : lwG (.code yX6_clearedTotal cX6_clearedTotal 1 (some .int)) := ⟨lwT2 (List.mem_of_getElem? (i := 87) rfl), good_of_word rfl⟩
theorem tw945 : lwG (.fieldLink RX6 272 "SnowDispatcher$Town" "cleared" "I") := ⟨lwT1 (List.mem_of_getElem? (i := 162) rfl), good_of_word rfl⟩
theorem tw946 : lwG (.selects RX7 yX7_clearedTotal yX7_clearedTotal) := ⟨lwT8 (List.mem_of_getElem? (i := 145) rfl), good_of_word rfl⟩
theorem tw947 : lwG (.instanceMethod yX7_clearedTotal) := ⟨lwT8 (List.mem_of_getElem? (i := 144) rfl), good_of_word rfl⟩
theorem tw948 : lwG (.methodLink RL 282 yX7_clearedTotal) := ⟨lwT8 (List.mem_of_getElem? (i := 143) rfl), good_of_word rfl⟩
theorem tw949 : lwG (.code yX7_clearedTotal cX7_clearedTotal 1 (some .int)) := ⟨lwT8 (List.mem_of_getElem? (i := 146) rfl), good_of_word rfl⟩
theorem tw950 : lwG (.selects RX6 yX6_ploughedTotal yX6_ploughedTotal) := ⟨lwT2 (List.mem_of_getElem? (i := 90) rfl), good_of_word rfl⟩
theorem tw951 : lwG (.instanceMethod yX6_ploughedTotal) := ⟨lwT2 (List.mem_of_getElem? (i := 89) rfl), good_of_word rfl⟩
theorem tw952 : lwG (.methodLink RL 283 yX6_ploughedTotal) := ⟨lwT2 (List.mem_of_getElem? (i := 88) rfl), good_of_word rfl⟩
theorem tw953 : lwG (.code yX6_ploughedTotal cX6_ploughedTotal 1 (some .int)) := ⟨lwT2 (List.mem_of_getElem? (i := 91) rfl), good_of_word rfl⟩
theorem tw954 : lwG (.fieldLink RX6 275 "SnowDispatcher$Town" "ploughed" "I") := ⟨lwT1 (List.mem_of_getElem? (i := 164) rfl), good_of_word rfl⟩
theorem tw955 : lwG (.selects RX7 yX7_ploughedTotal yX7_ploughedTotal) := ⟨lwT8 (List.mem_of_getElem? (i := 149) rfl), good_of_word rfl⟩
theorem tw956 : lwG (.instanceMethod yX7_ploughedTotal) := ⟨lwT8 (List.mem_of_getElem? (i := 148) rfl), good_of_word rfl⟩
theorem tw957 : lwG (.methodLink RL 286 yX7_ploughedTotal) := ⟨lwT8 (List.mem_of_getElem? (i := 147) rfl), good_of_word rfl⟩
theorem tw958 : lwG (.code yX7_ploughedTotal cX7_ploughedTotal 1 (some .int)) := ⟨lwT8 (List.mem_of_getElem? (i := 150) rfl), good_of_word rfl⟩
theorem tw959 : lwG (.selects RX6 yX6_failedOrders yX6_failedOrders) := ⟨lwT2 (List.mem_of_getElem? (i := 94) rfl), good_of_word rfl⟩
theorem tw960 : lwG (.instanceMethod yX6_failedOrders) := ⟨lwT2 (List.mem_of_getElem? (i := 93) rfl), good_of_word rfl⟩
theorem tw961 : lwG (.methodLink RL 287 yX6_failedOrders) := ⟨lwT2 (List.mem_of_getElem? (i := 92) rfl), good_of_word rfl⟩
theorem tw962 : lwG (.code yX6_failedOrders cX6_failedOrders 1 (some .int)) := ⟨lwT2 (List.mem_of_getElem? (i := 95) rfl), good_of_word rfl⟩
theorem tw963 : lwG (.fieldLink RX6 278 "SnowDispatcher$Town" "failed" "I") := ⟨lwT1 (List.mem_of_getElem? (i := 166) rfl), good_of_word rfl⟩
theorem tw964 : lwG (.selects RX7 yX7_failedOrders yX7_failedOrders) := ⟨lwT8 (List.mem_of_getElem? (i := 153) rfl), good_of_word rfl⟩
theorem tw965 : lwG (.instanceMethod yX7_failedOrders) := ⟨lwT8 (List.mem_of_getElem? (i := 152) rfl), good_of_word rfl⟩
theorem tw966 : lwG (.methodLink RL 290 yX7_failedOrders) := ⟨lwT8 (List.mem_of_getElem? (i := 151) rfl), good_of_word rfl⟩
theorem tw967 : lwG (.code yX7_failedOrders cX7_failedOrders 1 (some .int)) := ⟨lwT8 (List.mem_of_getElem? (i := 154) rfl), good_of_word rfl⟩
theorem tw968 : lwG (.selects RX6 yX6_complaintTotal yX6_complaintTotal) := ⟨lwT2 (List.mem_of_getElem? (i := 98) rfl), good_of_word rfl⟩
theorem tw969 : lwG (.instanceMethod yX6_complaintTotal) := ⟨lwT2 (List.mem_of_getElem? (i := 97) rfl), good_of_word rfl⟩
theorem tw970 : lwG (.methodLink RL 291 yX6_complaintTotal) := ⟨lwT2 (List.mem_of_getElem? (i := 96) rfl), good_of_word rfl⟩
theorem tw971 : lwG (.code yX6_complaintTotal cX6_complaintTotal 1 (some .int)) := ⟨lwT2 (List.mem_of_getElem? (i := 99) rfl), good_of_word rfl⟩
theorem tw972 : lwG (.fieldLink RX6 281 "SnowDispatcher$Town" "complained" "I") := ⟨lwT1 (List.mem_of_getElem? (i := 168) rfl), good_of_word rfl⟩
theorem tw973 : lwG (.selects RX7 yX7_complaintTotal yX7_complaintTotal) := ⟨lwT8 (List.mem_of_getElem? (i := 157) rfl), good_of_word rfl⟩
theorem tw974 : lwG (.instanceMethod yX7_complaintTotal) := ⟨lwT8 (List.mem_of_getElem? (i := 156) rfl), good_of_word rfl⟩
theorem tw975 : lwG (.methodLink RL 294 yX7_complaintTotal) := ⟨lwT8 (List.mem_of_getElem? (i := 155) rfl), good_of_word rfl⟩
theorem tw976 : lwG (.code yX7_complaintTotal cX7_complaintTotal 1 (some .int)) := ⟨lwT8 (List.mem_of_getElem? (i := 158) rfl), good_of_word rfl⟩
theorem tw977 : lwG (.static yL_meanDepth) := ⟨lwT5 (List.mem_of_getElem? (i := 25) rfl), good_of_word rfl⟩
theorem tw978 : lwG (.methodLink RL 295 yL_meanDepth) := ⟨lwT5 (List.mem_of_getElem? (i := 24) rfl), good_of_word rfl⟩
theorem tw979 : lwG (.codeWith yL_meanDepth cL_meanDepth 3 (some .int) [(0, 7, 10, 118)]) := ⟨lwT5 (List.mem_of_getElem? (i := 26) rfl), good_of_word rfl⟩
theorem tw980 : lwG (.selects RX6 yX6_meanDepth yX6_meanDepth) := ⟨lwT5 (List.mem_of_getElem? (i := 43) rfl), good_of_word rfl⟩
theorem tw981 : lwG (.instanceMethod yX6_meanDepth) := ⟨lwT5 (List.mem_of_getElem? (i := 42) rfl), good_of_word rfl⟩
theorem tw982 : lwG (.methodLink RL 114 yX6_meanDepth) := ⟨lwT5 (List.mem_of_getElem? (i := 41) rfl), good_of_word rfl⟩
theorem tw983 : lwG (.classLink RL 118 "java/lang/ArithmeticException") := ⟨lwT5 (List.mem_of_getElem? (i := 27) rfl), good_of_word rfl⟩
theorem tw984 : lwG (.code yX6_meanDepth cX6_meanDepth 2 (some .double)) := ⟨lwT5 (List.mem_of_getElem? (i := 44) rfl), good_of_word rfl⟩
theorem tw985 : lwG (.code yX4_snowSum cX4_snowSum 3 (some .int)) := ⟨lwT5 (List.mem_of_getElem? (i := 51) rfl), good_of_word rfl⟩
theorem tw986 : lwG (.selects RX4 yX4_snowSum yX4_snowSum) := ⟨lwT5 (List.mem_of_getElem? (i := 50) rfl), good_of_word rfl⟩
theorem tw987 : lwG (.instanceMethod yX4_snowSum) := ⟨lwT5 (List.mem_of_getElem? (i := 49) rfl), good_of_word rfl⟩
theorem tw988 : lwG (.methodLink RX6 288 yX4_snowSum) := ⟨lwT5 (List.mem_of_getElem? (i := 48) rfl), good_of_word rfl⟩
theorem tw989 : lwG (.initialized "java/lang/ArithmeticException") := ⟨lwT1 (List.mem_of_getElem? (i := 24) rfl), good_of_word rfl⟩
theorem tw990 : lwG (.classLink RX6 283 "java/lang/ArithmeticException") := ⟨lwT5 (List.mem_of_getElem? (i := 45) rfl), good_of_word rfl⟩
theorem tw991 : lwG (.selects RX7 yX7_meanDepth yX7_meanDepth) := ⟨lwT8 (List.mem_of_getElem? (i := 161) rfl), good_of_word rfl⟩
theorem tw992 : lwG (.instanceMethod yX7_meanDepth) := ⟨lwT8 (List.mem_of_getElem? (i := 160) rfl), good_of_word rfl⟩
theorem tw993 : lwG (.methodLink RL 298 yX7_meanDepth) := ⟨lwT8 (List.mem_of_getElem? (i := 159) rfl), good_of_word rfl⟩
theorem tw994 : lwG (.code yX7_meanDepth cX7_meanDepth 3 (some .double)) := ⟨lwT8 (List.mem_of_getElem? (i := 162) rfl), good_of_word rfl⟩
theorem tw995 : lwG (.static yL_saltedShare) := ⟨lwT5 (List.mem_of_getElem? (i := 53) rfl), good_of_word rfl⟩
theorem tw996 : lwG (.methodLink RL 299 yL_saltedShare) := ⟨lwT5 (List.mem_of_getElem? (i := 52) rfl), good_of_word rfl⟩
theorem tw997 : lwG (.codeWith yL_saltedShare cL_saltedShare 3 (some .int) [(0, 8, 11, 118)]) := ⟨lwT5 (List.mem_of_getElem? (i := 54) rfl), good_of_word rfl⟩
theorem tw998 : lwG (.selects RX6 yX6_saltedShare yX6_saltedShare) := ⟨lwT5 (List.mem_of_getElem? (i := 57) rfl), good_of_word rfl⟩
theorem tw999 : lwG (.instanceMethod yX6_saltedShare) := ⟨lwT5 (List.mem_of_getElem? (i := 56) rfl), good_of_word rfl⟩
theorem tw1000 : lwG (.methodLink RL 120 yX6_saltedShare) := ⟨lwT5 (List.mem_of_getElem? (i := 55) rfl), good_of_word rfl⟩
theorem tw1001 : lwG (.code yX6_saltedShare cX6_saltedShare 2 (some .float)) := ⟨lwT5 (List.mem_of_getElem? (i := 58) rfl), good_of_word rfl⟩
theorem tw1002 : lwG (.methodLink RX4 62 yX4_saltLeft) := ⟨lwT5 (List.mem_of_getElem? (i := 63) rfl), good_of_word rfl⟩
theorem tw1003 : lwG (.code yX4_saltedCount cX4_saltedCount 4 (some .int)) := ⟨lwT5 (List.mem_of_getElem? (i := 62) rfl), good_of_word rfl⟩
theorem tw1004 : lwG (.selects RX4 yX4_saltedCount yX4_saltedCount) := ⟨lwT5 (List.mem_of_getElem? (i := 61) rfl), good_of_word rfl⟩
theorem tw1005 : lwG (.instanceMethod yX4_saltedCount) := ⟨lwT5 (List.mem_of_getElem? (i := 60) rfl), good_of_word rfl⟩
theorem tw1006 : lwG (.methodLink RX6 292 yX4_saltedCount) := ⟨lwT5 (List.mem_of_getElem? (i := 59) rfl), good_of_word rfl⟩
theorem tw1007 : lwG (.selects RX7 yX7_saltedShare yX7_saltedShare) := ⟨lwT8 (List.mem_of_getElem? (i := 165) rfl), good_of_word rfl⟩
theorem tw1008 : lwG (.instanceMethod yX7_saltedShare) := ⟨lwT8 (List.mem_of_getElem? (i := 164) rfl), good_of_word rfl⟩
theorem tw1009 : lwG (.methodLink RL 301 yX7_saltedShare) := ⟨lwT8 (List.mem_of_getElem? (i := 163) rfl), good_of_word rfl⟩
theorem tw1010 : lwG (.code yX7_saltedShare cX7_saltedShare 3 (some .float)) := ⟨lwT8 (List.mem_of_getElem? (i := 166) rfl), good_of_word rfl⟩
theorem tw1011 : lwG (.selects RX6 yX6_isConsistent yX6_isConsistent) := ⟨lwT2 (List.mem_of_getElem? (i := 102) rfl), good_of_word rfl⟩
theorem tw1012 : lwG (.instanceMethod yX6_isConsistent) := ⟨lwT2 (List.mem_of_getElem? (i := 101) rfl), good_of_word rfl⟩
theorem tw1013 : lwG (.methodLink RL 302 yX6_isConsistent) := ⟨lwT2 (List.mem_of_getElem? (i := 100) rfl), good_of_word rfl⟩
theorem tw1014 : lwG (.code yX6_isConsistent cX6_isConsistent 1 (some .boolean)) := ⟨lwT2 (List.mem_of_getElem? (i := 103) rfl), good_of_word rfl⟩
theorem tw1015 : lwG (.code yX6_distancesAgree cX6_distancesAgree 3 (some .boolean)) := ⟨lwT2 (List.mem_of_getElem? (i := 107) rfl), good_of_word rfl⟩
theorem tw1016 : lwG (.selects RX6 yX6_distancesAgree yX6_distancesAgree) := ⟨lwT0 (List.mem_of_getElem? (i := 0) rfl), good_of_word rfl⟩
theorem tw1017 : lwG (.instanceMethod yX6_distancesAgree) := ⟨lwT2 (List.mem_of_getElem? (i := 106) rfl), good_of_word rfl⟩
theorem tw1018 : lwG (.methodLink RX6 295 yX6_distancesAgree) := ⟨lwT2 (List.mem_of_getElem? (i := 104) rfl), good_of_word rfl⟩
theorem tw1019 : lwG (.code yX4_depthsAllowed cX4_depthsAllowed 2 (some .boolean)) := ⟨lwT2 (List.mem_of_getElem? (i := 155) rfl), good_of_word rfl⟩
theorem tw1020 : lwG (.selects RX4 yX4_depthsAllowed yX4_depthsAllowed) := ⟨lwT2 (List.mem_of_getElem? (i := 154) rfl), good_of_word rfl⟩
theorem tw1021 : lwG (.instanceMethod yX4_depthsAllowed) := ⟨lwT2 (List.mem_of_getElem? (i := 153) rfl), good_of_word rfl⟩
theorem tw1022 : lwG (.methodLink RX6 302 yX4_depthsAllowed) := ⟨lwT2 (List.mem_of_getElem? (i := 152) rfl), good_of_word rfl⟩
theorem tw1023 : lwG (.code yX4_complaintSum cX4_complaintSum 3 (some .int)) := ⟨lwT2 (List.mem_of_getElem? (i := 151) rfl), good_of_word rfl⟩
theorem tw1024 : lwG (.selects RX4 yX4_complaintSum yX4_complaintSum) := ⟨lwT2 (List.mem_of_getElem? (i := 150) rfl), good_of_word rfl⟩
theorem tw1025 : lwG (.instanceMethod yX4_complaintSum) := ⟨lwT2 (List.mem_of_getElem? (i := 149) rfl), good_of_word rfl⟩
theorem tw1026 : lwG (.methodLink RX6 299 yX4_complaintSum) := ⟨lwT2 (List.mem_of_getElem? (i := 148) rfl), good_of_word rfl⟩
theorem tw1027 : lwG (.selects RX7 yX7_isConsistent yX7_isConsistent) := ⟨lwT8 (List.mem_of_getElem? (i := 169) rfl), good_of_word rfl⟩
theorem tw1028 : lwG (.instanceMethod yX7_isConsistent) := ⟨lwT8 (List.mem_of_getElem? (i := 168) rfl), good_of_word rfl⟩
theorem tw1029 : lwG (.methodLink RL 306 yX7_isConsistent) := ⟨lwT8 (List.mem_of_getElem? (i := 167) rfl), good_of_word rfl⟩
theorem tw1030 : lwG (.code yX7_isConsistent cX7_isConsistent 4 (some .boolean)) := ⟨lwT8 (List.mem_of_getElem? (i := 170) rfl), good_of_word rfl⟩
theorem tw1031 : lwG (.static yL_renderStreet) := ⟨lwT5 (List.mem_of_getElem? (i := 65) rfl), good_of_word rfl⟩
theorem tw1032 : lwG (.methodLink RL 307 yL_renderStreet) := ⟨lwT5 (List.mem_of_getElem? (i := 64) rfl), good_of_word rfl⟩
theorem tw1033 : lwG (.codeWith yL_renderStreet cL_renderStreet 4 (some .int) [(0, 9, 12, 13)]) := ⟨lwT5 (List.mem_of_getElem? (i := 66) rfl), good_of_word rfl⟩
theorem tw1034 : lwG (.selects RX6 yX6_renderStreet yX6_renderStreet) := ⟨lwT5 (List.mem_of_getElem? (i := 69) rfl), good_of_word rfl⟩
theorem tw1035 : lwG (.instanceMethod yX6_renderStreet) := ⟨lwT5 (List.mem_of_getElem? (i := 68) rfl), good_of_word rfl⟩
theorem tw1036 : lwG (.methodLink RL 124 yX6_renderStreet) := ⟨lwT5 (List.mem_of_getElem? (i := 67) rfl), good_of_word rfl⟩
theorem tw1037 : lwG (.code yX6_renderStreet cX6_renderStreet 3 (some .int)) := ⟨lwT5 (List.mem_of_getElem? (i := 70) rfl), good_of_word rfl⟩
theorem tw1038 : lwG (.superclass RJ4 RJ5) := ⟨lwT2 (List.mem_of_getElem? (i := 9) rfl), good_of_word rfl⟩
theorem tw1039 : lwG (.sameMethod "java/lang/AbstractStringBuilder" "java/lang/AbstractStringBuilder" "setLength" "(I)V") := ⟨lwT9 (List.mem_of_getElem? (i := 40) rfl), good_of_word rfl⟩
theorem tw1040 : lwG (.methodLink RJ4 333 yJ5_setLength_d00df) := ⟨lwT5 (List.mem_of_getElem? (i := 75) rfl), good_of_word rfl⟩
theorem tw1041 : lwG (.code yJ4_setLength_d00df cJ4_setLength_d00df 2 none) := ⟨lwT5 (List.mem_of_getElem? (i := 74) rfl), good_of_word rfl⟩
theorem tw1042 : lwG (.selects RJ4 yJ4_setLength_d00df yJ4_setLength_d00df) := ⟨lwT5 (List.mem_of_getElem? (i := 73) rfl), good_of_word rfl⟩
theorem tw1043 : lwG (.instanceMethod yJ4_setLength_d00df) := ⟨lwT5 (List.mem_of_getElem? (i := 72) rfl), good_of_word rfl⟩
theorem tw1044 : lwG (.methodLink RX6 305 yJ4_setLength_d00df) := ⟨lwT5 (List.mem_of_getElem? (i := 71) rfl), good_of_word rfl⟩
theorem tw1045 : lwG (.initialized RJ8) := ⟨lwT1 (List.mem_of_getElem? (i := 26) rfl), good_of_word rfl⟩
theorem tw1046 : lwG (.static yJ8_newLength_cabcc) := ⟨lwT5 (List.mem_of_getElem? (i := 106) rfl), good_of_word rfl⟩
theorem tw1047 : lwG (.methodLink RJ5 114 yJ8_newLength_cabcc) := ⟨lwT5 (List.mem_of_getElem? (i := 105) rfl), good_of_word rfl⟩
theorem tw1048 : lwG (.constant RJ5 39 (2147483647)) := ⟨lwT5 (List.mem_of_getElem? (i := 113) rfl), good_of_word rfl⟩
theorem tw1049 : lwG (.code yJ5_newCapacity_0f7a4 cJ5_newCapacity_0f7a4 6 (some .int)) := ⟨lwT5 (List.mem_of_getElem? (i := 104) rfl), good_of_word rfl⟩
theorem tw1050 : lwG (.instanceMethod yJ5_newCapacity_0f7a4) := ⟨lwT5 (List.mem_of_getElem? (i := 103) rfl), good_of_word rfl⟩
theorem tw1051 : lwG (.selects RJ4 ⟨"java/lang/AbstractStringBuilder", "newCapacity", "(I)I"⟩ yJ5_newCapacity_0f7a4) := ⟨List.mem_append_left _ (List.mem_of_getElem? (i := 0) rfl), good_of_word rfl⟩
theorem tw1052 : lwG (.sameMethod "java/lang/AbstractStringBuilder" "java/lang/AbstractStringBuilder" "newCapacity" "(I)I") := ⟨lwT9 (List.mem_of_getElem? (i := 44) rfl), good_of_word rfl⟩
theorem tw1053 : lwG (.methodLink RJ5 104 ⟨"java/lang/AbstractStringBuilder", "newCapacity", "(I)I"⟩) := ⟨lwT5 (List.mem_of_getElem? (i := 101) rfl), good_of_word rfl⟩
theorem tw1054 : lwG (.code yJ5_ensureCapacityInternal_d00df cJ5_ensureCapacityInternal_d00df 3 none) := ⟨lwT5 (List.mem_of_getElem? (i := 100) rfl), good_of_word rfl⟩
theorem tw1055 : lwG (.instanceMethod yJ5_ensureCapacityInternal_d00df) := ⟨lwT5 (List.mem_of_getElem? (i := 99) rfl), good_of_word rfl⟩
theorem tw1056 : lwG (.selects RJ4 ⟨"java/lang/AbstractStringBuilder", "ensureCapacityInternal", "(I)V"⟩ yJ5_ensureCapacityInternal_d00df) := ⟨List.mem_append_left _ (List.mem_of_getElem? (i := 1) rfl), good_of_word rfl⟩
theorem tw1057 : lwG (.sameMethod "java/lang/AbstractStringBuilder" "java/lang/AbstractStringBuilder" "ensureCapacityInternal" "(I)V") := ⟨lwT9 (List.mem_of_getElem? (i := 43) rfl), good_of_word rfl⟩
theorem tw1058 : lwG (.methodLink RJ5 100 ⟨"java/lang/AbstractStringBuilder", "ensureCapacityInternal", "(I)V"⟩) := ⟨lwT5 (List.mem_of_getElem? (i := 97) rfl), good_of_word rfl⟩
theorem tw1059 : lwG (.fieldLink RJ5 73 "java/lang/AbstractStringBuilder" "maybeLatin1" "Z") := ⟨lwT1 (List.mem_of_getElem? (i := 238) rfl), good_of_word rfl⟩
theorem tw1060 : lwG (.fieldLink RJ5 79 "java/lang/AbstractStringBuilder" "count" "I") := ⟨lwT2 (List.mem_of_getElem? (i := 0) rfl), good_of_word rfl⟩
theorem tw1061 : lwG (.initialized RJx7c733) := ⟨lwT1 (List.mem_of_getElem? (i := 25) rfl), good_of_word rfl⟩
theorem tw1062 : lwG (.instantiable RJx7c733 6) := ⟨lwT5 (List.mem_of_getElem? (i := 79) rfl), good_of_word rfl⟩
theorem tw1063 : lwG (.classLink RJ5 129 RJx7c733) := ⟨lwT5 (List.mem_of_getElem? (i := 78) rfl), good_of_word rfl⟩
theorem tw1064 : lwG (.code yJ5_setLength_d00df cJ5_setLength_d00df 2 none) := ⟨lwT5 (List.mem_of_getElem? (i := 77) rfl), good_of_word rfl⟩
theorem tw1065 : lwG (.instanceMethod yJ5_setLength_d00df) := ⟨lwT5 (List.mem_of_getElem? (i := 76) rfl), good_of_word rfl⟩
theorem tw1066 : lwG (.methodLink RJ7 150 arraycopyName) := ⟨lwT5 (List.mem_of_getElem? (i := 125) rfl), good_of_word rfl⟩
theorem tw1067 : lwG (.methodLink RJ7 304 Lib.Math.min.name) := ⟨lwT5 (List.mem_of_getElem? (i := 124) rfl), good_of_word rfl⟩
theorem tw1068 : lwG (.classLink RJ7 311 "[B") := ⟨lwT5 (List.mem_of_getElem? (i := 123) rfl), good_of_word rfl⟩
theorem tw1069 : lwG (.selects "[B" ⟨"[B", "clone", "()Ljava/lang/Object;"⟩ ⟨"java/lang/Object", "clone", "()Ljava/lang/Object;"⟩) := ⟨lwT5 (List.mem_of_getElem? (i := 121) rfl), good_of_word rfl⟩
theorem tw1070 : lwG (.instanceMethod ⟨"java/lang/Object", "clone", "()Ljava/lang/Object;"⟩) := ⟨lwT5 (List.mem_of_getElem? (i := 120) rfl), good_of_word rfl⟩
theorem tw1071 : lwG (.native ⟨"java/lang/Object", "clone", "()Ljava/lang/Object;"⟩) := ⟨lwT5 (List.mem_of_getElem? (i := 119) rfl), good_of_word rfl⟩
theorem tw1072 : lwG (.sameMethod "[B" "java/lang/Object" "clone" "()Ljava/lang/Object;") := ⟨lwT5 (List.mem_of_getElem? (i := 118) rfl), good_of_word rfl⟩
theorem tw1073 : lwG (.methodLink RJ7 310 ⟨"[B", "clone", "()Ljava/lang/Object;"⟩) := ⟨lwT5 (List.mem_of_getElem? (i := 117) rfl), good_of_word rfl⟩
theorem tw1074 : lwG (.code yJ7_copyOf_9075b cJ7_copyOf_9075b 3 (some (.array .byte))) := ⟨lwT5 (List.mem_of_getElem? (i := 116) rfl), good_of_word rfl⟩
theorem tw1075 : lwG (.initialized RJ7) := ⟨lwT1 (List.mem_of_getElem? (i := 27) rfl), good_of_word rfl⟩
theorem tw1076 : lwG (.static yJ7_copyOf_9075b) := ⟨lwT5 (List.mem_of_getElem? (i := 115) rfl), good_of_word rfl⟩
theorem tw1077 : lwG (.methodLink RJ5 108 yJ7_copyOf_9075b) := ⟨lwT5 (List.mem_of_getElem? (i := 114) rfl), good_of_word rfl⟩
theorem tw1078 : lwG (.code yJ8_hugeLength_7cf53 cJ8_hugeLength_7cf53 3 (some .int)) := ⟨lwT5 (List.mem_of_getElem? (i := 112) rfl), good_of_word rfl⟩
theorem tw1079 : lwG (.static yJ8_hugeLength_7cf53) := ⟨lwT5 (List.mem_of_getElem? (i := 111) rfl), good_of_word rfl⟩
theorem tw1080 : lwG (.methodLink RJ8 201 yJ8_hugeLength_7cf53) := ⟨lwT5 (List.mem_of_getElem? (i := 110) rfl), good_of_word rfl⟩
theorem tw1081 : lwG (.constant RJ8 200 (2147483639)) := ⟨lwT5 (List.mem_of_getElem? (i := 109) rfl), good_of_word rfl⟩
theorem tw1082 : lwG (.methodLink RJ8 194 Lib.Math.max.name) := ⟨lwT5 (List.mem_of_getElem? (i := 108) rfl), good_of_word rfl⟩
theorem tw1083 : lwG (.code yJ8_newLength_cabcc cJ8_newLength_cabcc 4 (some .int)) := ⟨lwT5 (List.mem_of_getElem? (i := 107) rfl), good_of_word rfl⟩
theorem tw1084 : lwG (.initialized RJx00060) := ⟨lwT1 (List.mem_of_getElem? (i := 17) rfl), good_of_word rfl⟩
theorem tw1085 : lwG (.instantiable RJx00060 6) := ⟨lwT2 (List.mem_of_getElem? (i := 180) rfl), good_of_word rfl⟩
theorem tw1086 : lwG (.classLink RJ7 68 RJx00060) := ⟨lwT6 (List.mem_of_getElem? (i := 68) rfl), good_of_word rfl⟩
theorem tw1087 : lwG (.classLink RJ7 45 RJ4) := ⟨lwT6 (List.mem_of_getElem? (i := 21) rfl), good_of_word rfl⟩
theorem tw1088 : lwG (.code yJ7_rangeCheck_23922 cJ7_rangeCheck_23922 3 none) := ⟨lwT6 (List.mem_of_getElem? (i := 64) rfl), good_of_word rfl⟩
theorem tw1089 : lwG (.static yJ7_rangeCheck_23922) := ⟨lwT6 (List.mem_of_getElem? (i := 63) rfl), good_of_word rfl⟩
theorem tw1090 : lwG (.methodLink RJ7 13 yJ7_rangeCheck_23922) := ⟨lwT6 (List.mem_of_getElem? (i := 62) rfl), good_of_word rfl⟩
theorem tw1091 : lwG (.code yJ7_fill_eb02e cJ7_fill_eb02e 5 none) := ⟨lwT6 (List.mem_of_getElem? (i := 61) rfl), good_of_word rfl⟩
theorem tw1092 : lwG (.static yJ7_fill_eb02e) := ⟨lwT6 (List.mem_of_getElem? (i := 60) rfl), good_of_word rfl⟩
theorem tw1093 : lwG (.methodLink RJ1 236 yJ7_fill_eb02e) := ⟨lwT6 (List.mem_of_getElem? (i := 59) rfl), good_of_word rfl⟩
theorem tw1094 : lwG (.code yJ1_fillNull_b72d1 cJ1_fillNull_b72d1 3 none) := ⟨lwT6 (List.mem_of_getElem? (i := 58) rfl), good_of_word rfl⟩
theorem tw1095 : lwG (.initialized RJ1) := ⟨lwT1 (List.mem_of_getElem? (i := 29) rfl), good_of_word rfl⟩
theorem tw1096 : lwG (.static yJ1_fillNull_b72d1) := ⟨lwT6 (List.mem_of_getElem? (i := 57) rfl), good_of_word rfl⟩
theorem tw1097 : lwG (.methodLink RJ5 133 yJ1_fillNull_b72d1) := ⟨lwT6 (List.mem_of_getElem? (i := 56) rfl), good_of_word rfl⟩
theorem tw1098 : lwG (.code yJ5_isLatin1_aae02 cJ5_isLatin1_aae02 1 (some .boolean)) := ⟨lwT5 (List.mem_of_getElem? (i := 130) rfl), good_of_word rfl⟩
theorem tw1099 : lwG (.instanceMethod yJ5_isLatin1_aae02) := ⟨lwT5 (List.mem_of_getElem? (i := 127) rfl), good_of_word rfl⟩
theorem tw1100 : lwG (.selects RJ4 ⟨"java/lang/AbstractStringBuilder", "isLatin1", "()Z"⟩ yJ5_isLatin1_aae02) := ⟨lwT5 (List.mem_of_getElem? (i := 129) rfl), good_of_word rfl⟩
theorem tw1101 : lwG (.sameMethod "java/lang/AbstractStringBuilder" "java/lang/AbstractStringBuilder" "isLatin1" "()Z") := ⟨lwT5 (List.mem_of_getElem? (i := 128) rfl), good_of_word rfl⟩
theorem tw1102 : lwG (.methodLink RJ5 83 ⟨"java/lang/AbstractStringBuilder", "isLatin1", "()Z"⟩) := ⟨lwT5 (List.mem_of_getElem? (i := 126) rfl), good_of_word rfl⟩
theorem tw1103 : lwG (.static yJ2_getChars_46870) := ⟨lwT5 (List.mem_of_getElem? (i := 218) rfl), good_of_word rfl⟩
theorem tw1104 : lwG (.methodLink RJ5 251 yJ2_getChars_46870) := ⟨lwT5 (List.mem_of_getElem? (i := 217) rfl), good_of_word rfl⟩
theorem tw1105 : lwG (.fieldLink RJ6 87 "java/lang/Integer" "DigitTens" "[B") := ⟨lwT5 (List.mem_of_getElem? (i := 215) rfl), good_of_word rfl⟩
theorem tw1106 : lwG (.fieldLink RJ6 83 "java/lang/Integer" "DigitOnes" "[B") := ⟨lwT5 (List.mem_of_getElem? (i := 213) rfl), good_of_word rfl⟩
theorem tw1107 : lwG (.code yJ6_getChars_ba4f3 cJ6_getChars_ba4f3 7 (some .int)) := ⟨lwT5 (List.mem_of_getElem? (i := 212) rfl), good_of_word rfl⟩
theorem tw1108 : lwG (.static yJ6_getChars_ba4f3) := ⟨lwT5 (List.mem_of_getElem? (i := 211) rfl), good_of_word rfl⟩
theorem tw1109 : lwG (.methodLink RJ5 248 yJ6_getChars_ba4f3) := ⟨lwT5 (List.mem_of_getElem? (i := 210) rfl), good_of_word rfl⟩
theorem tw1110 : lwG (.code yJ6_stringSize_0f7a4 cJ6_stringSize_0f7a4 4 (some .int)) := ⟨lwT5 (List.mem_of_getElem? (i := 209) rfl), good_of_word rfl⟩
theorem tw1111 : lwG (.initialized RJ6) := ⟨lwT1 (List.mem_of_getElem? (i := 31) rfl), good_of_word rfl⟩
theorem tw1112 : lwG (.static yJ6_stringSize_0f7a4) := ⟨lwT5 (List.mem_of_getElem? (i := 208) rfl), good_of_word rfl⟩
theorem tw1113 : lwG (.methodLink RJ5 245 yJ6_stringSize_0f7a4) := ⟨lwT5 (List.mem_of_getElem? (i := 207) rfl), good_of_word rfl⟩
theorem tw1114 : lwG (.code yJ5_append_c97b9 cJ5_append_c97b9 4 (some (.object "java/lang/AbstractStringBuilder"))) := ⟨lwT5 (List.mem_of_getElem? (i := 206) rfl), good_of_word rfl⟩
theorem tw1115 : lwG (.instanceMethod yJ5_append_c97b9) := ⟨lwT5 (List.mem_of_getElem? (i := 205) rfl), good_of_word rfl⟩
theorem tw1116 : lwG (.sameMethod "java/lang/AbstractStringBuilder" "java/lang/AbstractStringBuilder" "append" "(I)Ljava/lang/AbstractStringBuilder;") := ⟨lwT9 (List.mem_of_getElem? (i := 48) rfl), good_of_word rfl⟩
theorem tw1117 : lwG (.methodLink RJ4 53 yJ5_append_c97b9) := ⟨lwT5 (List.mem_of_getElem? (i := 204) rfl), good_of_word rfl⟩
theorem tw1118 : lwG (.code yJ4_append_bf812 cJ4_append_bf812 2 (some (.object "java/lang/StringBuilder"))) := ⟨lwT5 (List.mem_of_getElem? (i := 203) rfl), good_of_word rfl⟩
theorem tw1119 : lwG (.selects RJ4 yJ4_append_bf812 yJ4_append_bf812) := ⟨lwT5 (List.mem_of_getElem? (i := 202) rfl), good_of_word rfl⟩
theorem tw1120 : lwG (.instanceMethod yJ4_append_bf812) := ⟨lwT5 (List.mem_of_getElem? (i := 201) rfl), good_of_word rfl⟩
theorem tw1121 : lwG (.methodLink RX6 309 yJ4_append_bf812) := ⟨lwT6 (List.mem_of_getElem? (i := 82) rfl), good_of_word rfl⟩
theorem tw1122 : lwG (.methodLink RJ2 380 yJ7_fill_eb02e) := ⟨lwT6 (List.mem_of_getElem? (i := 81) rfl), good_of_word rfl⟩
theorem tw1123 : lwG (.code yJ2_fillNull_b72d1 cJ2_fillNull_b72d1 3 none) := ⟨lwT6 (List.mem_of_getElem? (i := 80) rfl), good_of_word rfl⟩
theorem tw1124 : lwG (.static yJ2_fillNull_b72d1) := ⟨lwT6 (List.mem_of_getElem? (i := 79) rfl), good_of_word rfl⟩
theorem tw1125 : lwG (.methodLink RJ5 137 yJ2_fillNull_b72d1) := ⟨lwT6 (List.mem_of_getElem? (i := 78) rfl), good_of_word rfl⟩
theorem tw1126 : lwG (.static yJ2_putChar_b72d1) := ⟨lwT5 (List.mem_of_getElem? (i := 149) rfl), good_of_word rfl⟩
theorem tw1127 : lwG (.methodLink RJ2 111 yJ2_putChar_b72d1) := ⟨lwT5 (List.mem_of_getElem? (i := 148) rfl), good_of_word rfl⟩
theorem tw1128 : lwG (.fieldLink RJ2 407 "java/lang/Integer" "DigitTens" "[B") := ⟨lwT5 (List.mem_of_getElem? (i := 224) rfl), good_of_word rfl⟩
theorem tw1129 : lwG (.fieldLink RJ2 403 "java/lang/Integer" "DigitOnes" "[B") := ⟨lwT5 (List.mem_of_getElem? (i := 223) rfl), good_of_word rfl⟩
theorem tw1130 : lwG (.code yJ2_getChars_ba4f3 cJ2_getChars_ba4f3 7 (some .int)) := ⟨lwT5 (List.mem_of_getElem? (i := 222) rfl), good_of_word rfl⟩
theorem tw1131 : lwG (.static yJ2_getChars_ba4f3) := ⟨lwT5 (List.mem_of_getElem? (i := 221) rfl), good_of_word rfl⟩
theorem tw1132 : lwG (.methodLink RJ2 393 yJ2_getChars_ba4f3) := ⟨lwT5 (List.mem_of_getElem? (i := 220) rfl), good_of_word rfl⟩
theorem tw1133 : lwG (.code yJ3_checkFromToIndex_8c36e cJ3_checkFromToIndex_8c36e 4 (some .int)) := ⟨lwT5 (List.mem_of_getElem? (i := 147) rfl), good_of_word rfl⟩
theorem tw1134 : lwG (.initialized RJ3) := ⟨lwT1 (List.mem_of_getElem? (i := 28) rfl), good_of_word rfl⟩
theorem tw1135 : lwG (.static yJ3_checkFromToIndex_8c36e) := ⟨lwT5 (List.mem_of_getElem? (i := 146) rfl), good_of_word rfl⟩
theorem tw1136 : lwG (.methodLink RJ0 1062 yJ3_checkFromToIndex_8c36e) := ⟨lwT5 (List.mem_of_getElem? (i := 145) rfl), good_of_word rfl⟩
theorem tw1137 : lwG (.fieldLink RJ0 1053 "jdk/internal/util/Preconditions" "SIOOBE_FORMATTER" "Ljava/util/function/BiFunction;") := ⟨lwT5 (List.mem_of_getElem? (i := 143) rfl), good_of_word rfl⟩
theorem tw1138 : lwG (.code yJ0_checkBoundsBeginEnd_23922 cJ0_checkBoundsBeginEnd_23922 3 none) := ⟨lwT5 (List.mem_of_getElem? (i := 142) rfl), good_of_word rfl⟩
theorem tw1139 : lwG (.initialized RJ0) := ⟨lwT1 (List.mem_of_getElem? (i := 10) rfl), good_of_word rfl⟩
theorem tw1140 : lwG (.static yJ0_checkBoundsBeginEnd_23922) := ⟨lwT5 (List.mem_of_getElem? (i := 141) rfl), good_of_word rfl⟩
theorem tw1141 : lwG (.methodLink RJ2 241 yJ0_checkBoundsBeginEnd_23922) := ⟨lwT5 (List.mem_of_getElem? (i := 140) rfl), good_of_word rfl⟩
theorem tw1142 : lwG (.code yJ2_length_9d52b cJ2_length_9d52b 1 (some .int)) := ⟨lwT5 (List.mem_of_getElem? (i := 139) rfl), good_of_word rfl⟩
theorem tw1143 : lwG (.static yJ2_length_9d52b) := ⟨lwT5 (List.mem_of_getElem? (i := 138) rfl), good_of_word rfl⟩
theorem tw1144 : lwG (.methodLink RJ2 48 yJ2_length_9d52b) := ⟨lwT5 (List.mem_of_getElem? (i := 137) rfl), good_of_word rfl⟩
theorem tw1145 : lwG (.code yJ2_checkBoundsBeginEnd_d044e cJ2_checkBoundsBeginEnd_d044e 3 none) := ⟨lwT5 (List.mem_of_getElem? (i := 136) rfl), good_of_word rfl⟩
theorem tw1146 : lwG (.static yJ2_checkBoundsBeginEnd_d044e) := ⟨lwT5 (List.mem_of_getElem? (i := 135) rfl), good_of_word rfl⟩
theorem tw1147 : lwG (.methodLink RJ2 96 yJ2_checkBoundsBeginEnd_d044e) := ⟨lwT5 (List.mem_of_getElem? (i := 134) rfl), good_of_word rfl⟩
theorem tw1148 : lwG (.fieldLink RJ2 44 "java/lang/StringUTF16" "$assertionsDisabled" "Z") := ⟨lwT5 (List.mem_of_getElem? (i := 151) rfl), good_of_word rfl⟩
theorem tw1149 : lwG (.code yJ2_getChars_46870 cJ2_getChars_46870 5 (some .int)) := ⟨lwT5 (List.mem_of_getElem? (i := 219) rfl), good_of_word rfl⟩
theorem tw1150 : lwG (.code yJ5_inflate_da8c8 cJ5_inflate_da8c8 2 none) := ⟨lwT5 (List.mem_of_getElem? (i := 178) rfl), good_of_word rfl⟩
theorem tw1151 : lwG (.instanceMethod yJ5_inflate_da8c8) := ⟨lwT5 (List.mem_of_getElem? (i := 177) rfl), good_of_word rfl⟩
theorem tw1152 : lwG (.selects RJ4 ⟨"java/lang/AbstractStringBuilder", "inflate", "()V"⟩ yJ5_inflate_da8c8) := ⟨List.mem_append_left _ (List.mem_of_getElem? (i := 2) rfl), good_of_word rfl⟩
theorem tw1153 : lwG (.sameMethod "java/lang/AbstractStringBuilder" "java/lang/AbstractStringBuilder" "inflate" "()V") := ⟨lwT9 (List.mem_of_getElem? (i := 47) rfl), good_of_word rfl⟩
theorem tw1154 : lwG (.methodLink RJ5 195 ⟨"java/lang/AbstractStringBuilder", "inflate", "()V"⟩) := ⟨lwT5 (List.mem_of_getElem? (i := 175) rfl), good_of_word rfl⟩
theorem tw1155 : lwG (.code yJ1_canEncode_fc78d cJ1_canEncode_fc78d 1 (some .boolean)) := ⟨lwT6 (List.mem_of_getElem? (i := 92) rfl), good_of_word rfl⟩
theorem tw1156 : lwG (.static yJ1_canEncode_fc78d) := ⟨lwT6 (List.mem_of_getElem? (i := 91) rfl), good_of_word rfl⟩
theorem tw1157 : lwG (.methodLink RJ5 191 yJ1_canEncode_fc78d) := ⟨lwT6 (List.mem_of_getElem? (i := 90) rfl), good_of_word rfl⟩
theorem tw1158 : lwG (.code yJ5_append_3fe6f cJ5_append_3fe6f 2 (some (.object "java/lang/AbstractStringBuilder"))) := ⟨lwT6 (List.mem_of_getElem? (i := 89) rfl), good_of_word rfl⟩
theorem tw1159 : lwG (.instanceMethod yJ5_append_3fe6f) := ⟨lwT6 (List.mem_of_getElem? (i := 88) rfl), good_of_word rfl⟩
theorem tw1160 : lwG (.sameMethod "java/lang/AbstractStringBuilder" "java/lang/AbstractStringBuilder" "append" "(C)Ljava/lang/AbstractStringBuilder;") := ⟨lwT9 (List.mem_of_getElem? (i := 49) rfl), good_of_word rfl⟩
theorem tw1161 : lwG (.methodLink RJ4 50 yJ5_append_3fe6f) := ⟨lwT6 (List.mem_of_getElem? (i := 87) rfl), good_of_word rfl⟩
theorem tw1162 : lwG (.code yJ4_append_cf468 cJ4_append_cf468 2 (some (.object "java/lang/StringBuilder"))) := ⟨lwT6 (List.mem_of_getElem? (i := 86) rfl), good_of_word rfl⟩
theorem tw1163 : lwG (.selects RJ4 yJ4_append_cf468 yJ4_append_cf468) := ⟨lwT6 (List.mem_of_getElem? (i := 85) rfl), good_of_word rfl⟩
theorem tw1164 : lwG (.instanceMethod yJ4_append_cf468) := ⟨lwT6 (List.mem_of_getElem? (i := 84) rfl), good_of_word rfl⟩
theorem tw1165 : lwG (.methodLink RX6 313 yJ4_append_cf468) := ⟨lwT6 (List.mem_of_getElem? (i := 83) rfl), good_of_word rfl⟩
theorem tw1166 : lwG (.fieldLink RJ2 63 "java/lang/StringUTF16" "LO_BYTE_SHIFT" "I") := ⟨lwT5 (List.mem_of_getElem? (i := 155) rfl), good_of_word rfl⟩
theorem tw1167 : lwG (.fieldLink RJ2 59 "java/lang/StringUTF16" "HI_BYTE_SHIFT" "I") := ⟨lwT5 (List.mem_of_getElem? (i := 153) rfl), good_of_word rfl⟩
theorem tw1168 : lwG (.code yJ2_putChar_b72d1 cJ2_putChar_b72d1 3 none) := ⟨lwT5 (List.mem_of_getElem? (i := 150) rfl), good_of_word rfl⟩
theorem tw1169 : lwG (.methodLink RJ2 414 yJ0_checkIndex_df160) := ⟨lwT6 (List.mem_of_getElem? (i := 99) rfl), good_of_word rfl⟩
theorem tw1170 : lwG (.code yJ2_checkIndex_2214a cJ2_checkIndex_2214a 2 none) := ⟨lwT6 (List.mem_of_getElem? (i := 98) rfl), good_of_word rfl⟩
theorem tw1171 : lwG (.static yJ2_checkIndex_2214a) := ⟨lwT6 (List.mem_of_getElem? (i := 97) rfl), good_of_word rfl⟩
theorem tw1172 : lwG (.methodLink RJ2 67 yJ2_checkIndex_2214a) := ⟨lwT6 (List.mem_of_getElem? (i := 96) rfl), good_of_word rfl⟩
theorem tw1173 : lwG (.code yJ2_putCharSB_b72d1 cJ2_putCharSB_b72d1 3 none) := ⟨lwT6 (List.mem_of_getElem? (i := 95) rfl), good_of_word rfl⟩
theorem tw1174 : lwG (.static yJ2_putCharSB_b72d1) := ⟨lwT6 (List.mem_of_getElem? (i := 94) rfl), good_of_word rfl⟩
theorem tw1175 : lwG (.methodLink RJ5 197 yJ2_putCharSB_b72d1) := ⟨lwT6 (List.mem_of_getElem? (i := 93) rfl), good_of_word rfl⟩
theorem tw1176 : lwG (.code yJ3_checkFromIndexSize_8c36e cJ3_checkFromIndexSize_8c36e 4 (some .int)) := ⟨lwT5 (List.mem_of_getElem? (i := 193) rfl), good_of_word rfl⟩
theorem tw1177 : lwG (.static yJ3_checkFromIndexSize_8c36e) := ⟨lwT5 (List.mem_of_getElem? (i := 192) rfl), good_of_word rfl⟩
theorem tw1178 : lwG (.methodLink RJ0 1065 yJ3_checkFromIndexSize_8c36e) := ⟨lwT5 (List.mem_of_getElem? (i := 191) rfl), good_of_word rfl⟩
theorem tw1179 : lwG (.code yJ0_checkBoundsOffCount_cabcc cJ0_checkBoundsOffCount_cabcc 3 (some .int)) := ⟨lwT5 (List.mem_of_getElem? (i := 190) rfl), good_of_word rfl⟩
theorem tw1180 : lwG (.static yJ0_checkBoundsOffCount_cabcc) := ⟨lwT5 (List.mem_of_getElem? (i := 189) rfl), good_of_word rfl⟩
theorem tw1181 : lwG (.methodLink RJ2 419 yJ0_checkBoundsOffCount_cabcc) := ⟨lwT5 (List.mem_of_getElem? (i := 188) rfl), good_of_word rfl⟩
theorem tw1182 : lwG (.code yJ2_checkBoundsOffCount_d044e cJ2_checkBoundsOffCount_d044e 3 none) := ⟨lwT5 (List.mem_of_getElem? (i := 187) rfl), good_of_word rfl⟩
theorem tw1183 : lwG (.static yJ2_checkBoundsOffCount_d044e) := ⟨lwT5 (List.mem_of_getElem? (i := 186) rfl), good_of_word rfl⟩
theorem tw1184 : lwG (.methodLink RJ2 173 yJ2_checkBoundsOffCount_d044e) := ⟨lwT5 (List.mem_of_getElem? (i := 185) rfl), good_of_word rfl⟩
theorem tw1185 : lwG (.code yJ2_inflate_0e8fd cJ2_inflate_0e8fd 6 none) := ⟨lwT5 (List.mem_of_getElem? (i := 184) rfl), good_of_word rfl⟩
theorem tw1186 : lwG (.static yJ2_inflate_0e8fd) := ⟨lwT5 (List.mem_of_getElem? (i := 183) rfl), good_of_word rfl⟩
theorem tw1187 : lwG (.methodLink RJ1 240 yJ2_inflate_0e8fd) := ⟨lwT5 (List.mem_of_getElem? (i := 182) rfl), good_of_word rfl⟩
theorem tw1188 : lwG (.code yJ1_inflate_0e8fd cJ1_inflate_0e8fd 5 none) := ⟨lwT5 (List.mem_of_getElem? (i := 181) rfl), good_of_word rfl⟩
theorem tw1189 : lwG (.static yJ1_inflate_0e8fd) := ⟨lwT5 (List.mem_of_getElem? (i := 180) rfl), good_of_word rfl⟩
theorem tw1190 : lwG (.methodLink RJ5 125 yJ1_inflate_0e8fd) := ⟨lwT5 (List.mem_of_getElem? (i := 179) rfl), good_of_word rfl⟩
theorem tw1191 : lwG (.selects RJ0 yJ0_length_8abf5 yJ0_length_8abf5) := ⟨lwT5 (List.mem_of_getElem? (i := 159) rfl), good_of_word rfl⟩
theorem tw1192 : lwG (.instanceMethod yJ0_length_8abf5) := ⟨lwT5 (List.mem_of_getElem? (i := 158) rfl), good_of_word rfl⟩
theorem tw1193 : lwG (.methodLink RJ5 32 yJ0_length_8abf5) := ⟨lwT5 (List.mem_of_getElem? (i := 157) rfl), good_of_word rfl⟩
theorem tw1194 : lwG (.code yJ2_putCharsAt_cd4e5 cJ2_putCharsAt_cd4e5 7 (some .int)) := ⟨lwT5 (List.mem_of_getElem? (i := 133) rfl), good_of_word rfl⟩
theorem tw1195 : lwG (.static yJ2_putCharsAt_cd4e5) := ⟨lwT5 (List.mem_of_getElem? (i := 132) rfl), good_of_word rfl⟩
theorem tw1196 : lwG (.methodLink RJ5 226 yJ2_putCharsAt_cd4e5) := ⟨lwT5 (List.mem_of_getElem? (i := 131) rfl), good_of_word rfl⟩
theorem tw1197 : lwG (.code yJ5_appendNull_278bc cJ5_appendNull_278bc 3 (some (.object "java/lang/AbstractStringBuilder"))) := ⟨lwT5 (List.mem_of_getElem? (i := 96) rfl), good_of_word rfl⟩
theorem tw1198 : lwG (.instanceMethod yJ5_appendNull_278bc) := ⟨lwT5 (List.mem_of_getElem? (i := 95) rfl), good_of_word rfl⟩
theorem tw1199 : lwG (.selects RJ4 ⟨"java/lang/AbstractStringBuilder", "appendNull", "()Ljava/lang/AbstractStringBuilder;"⟩ yJ5_appendNull_278bc) := ⟨List.mem_append_left _ (List.mem_of_getElem? (i := 3) rfl), good_of_word rfl⟩
theorem tw1200 : lwG (.sameMethod "java/lang/AbstractStringBuilder" "java/lang/AbstractStringBuilder" "appendNull" "()Ljava/lang/AbstractStringBuilder;") := ⟨lwT9 (List.mem_of_getElem? (i := 42) rfl), good_of_word rfl⟩
theorem tw1201 : lwG (.methodLink RJ5 204 ⟨"java/lang/AbstractStringBuilder", "appendNull", "()Ljava/lang/AbstractStringBuilder;"⟩) := ⟨lwT5 (List.mem_of_getElem? (i := 93) rfl), good_of_word rfl⟩
theorem tw1202 : lwG (.code yJ5_append_cf1ce cJ5_append_cf1ce 3 (some (.object "java/lang/AbstractStringBuilder"))) := ⟨lwT5 (List.mem_of_getElem? (i := 92) rfl), good_of_word rfl⟩
theorem tw1203 : lwG (.instanceMethod yJ5_append_cf1ce) := ⟨lwT5 (List.mem_of_getElem? (i := 91) rfl), good_of_word rfl⟩
theorem tw1204 : lwG (.sameMethod "java/lang/AbstractStringBuilder" "java/lang/AbstractStringBuilder" "append" "(Ljava/lang/String;)Ljava/lang/AbstractStringBuilder;") := ⟨lwT9 (List.mem_of_getElem? (i := 41) rfl), good_of_word rfl⟩
theorem tw1205 : lwG (.methodLink RJ4 29 yJ5_append_cf1ce) := ⟨lwT5 (List.mem_of_getElem? (i := 90) rfl), good_of_word rfl⟩
theorem tw1206 : lwG (.code yJ4_append_15ec4 cJ4_append_15ec4 2 (some (.object "java/lang/StringBuilder"))) := ⟨lwT5 (List.mem_of_getElem? (i := 89) rfl), good_of_word rfl⟩
theorem tw1207 : lwG (.selects RJ4 yJ4_append_15ec4 yJ4_append_15ec4) := ⟨lwT5 (List.mem_of_getElem? (i := 88) rfl), good_of_word rfl⟩
theorem tw1208 : lwG (.instanceMethod yJ4_append_15ec4) := ⟨lwT5 (List.mem_of_getElem? (i := 87) rfl), good_of_word rfl⟩
theorem tw1209 : lwG (.methodLink RX6 318 yJ4_append_15ec4) := ⟨lwT6 (List.mem_of_getElem? (i := 106) rfl), good_of_word rfl⟩
theorem tw1210 : lwG (.code yJ3_checkIndex_8e157 cJ3_checkIndex_8e157 3 (some .int)) := ⟨lwT6 (List.mem_of_getElem? (i := 104) rfl), good_of_word rfl⟩
theorem tw1211 : lwG (.static yJ3_checkIndex_8e157) := ⟨lwT6 (List.mem_of_getElem? (i := 103) rfl), good_of_word rfl⟩
theorem tw1212 : lwG (.methodLink RJ0 1059 yJ3_checkIndex_8e157) := ⟨lwT6 (List.mem_of_getElem? (i := 102) rfl), good_of_word rfl⟩
theorem tw1213 : lwG (.code yJ0_checkIndex_df160 cJ0_checkIndex_df160 2 none) := ⟨lwT6 (List.mem_of_getElem? (i := 101) rfl), good_of_word rfl⟩
theorem tw1214 : lwG (.static yJ0_checkIndex_df160) := ⟨lwT6 (List.mem_of_getElem? (i := 100) rfl), good_of_word rfl⟩
theorem tw1215 : lwG (.methodLink RJ0 212 arraycopyName) := ⟨lwT5 (List.mem_of_getElem? (i := 198) rfl), good_of_word rfl⟩
theorem tw1216 : lwG (.code yJ0_getBytes_840e7 cJ0_getBytes_840e7 4 none) := ⟨lwT5 (List.mem_of_getElem? (i := 197) rfl), good_of_word rfl⟩
theorem tw1217 : lwG (.selects RJ0 yJ0_getBytes_840e7 yJ0_getBytes_840e7) := ⟨lwT5 (List.mem_of_getElem? (i := 196) rfl), good_of_word rfl⟩
theorem tw1218 : lwG (.instanceMethod yJ0_getBytes_840e7) := ⟨lwT5 (List.mem_of_getElem? (i := 195) rfl), good_of_word rfl⟩
theorem tw1219 : lwG (.methodLink RJ5 399 yJ0_getBytes_840e7) := ⟨lwT5 (List.mem_of_getElem? (i := 194) rfl), good_of_word rfl⟩
theorem tw1220 : lwG (.methodLink RJ5 40 yJ0_coder_7d493) := ⟨lwT5 (List.mem_of_getElem? (i := 174) rfl), good_of_word rfl⟩
theorem tw1221 : lwG (.code yJ5_inflateIfNeededFor_a7421 cJ5_inflateIfNeededFor_a7421 2 none) := ⟨lwT5 (List.mem_of_getElem? (i := 173) rfl), good_of_word rfl⟩
theorem tw1222 : lwG (.instanceMethod yJ5_inflateIfNeededFor_a7421) := ⟨lwT5 (List.mem_of_getElem? (i := 172) rfl), good_of_word rfl⟩
theorem tw1223 : lwG (.selects RJ4 ⟨"java/lang/AbstractStringBuilder", "inflateIfNeededFor", "(Ljava/lang/String;)V"⟩ yJ5_inflateIfNeededFor_a7421) := ⟨List.mem_append_left _ (List.mem_of_getElem? (i := 4) rfl), good_of_word rfl⟩
theorem tw1224 : lwG (.sameMethod "java/lang/AbstractStringBuilder" "java/lang/AbstractStringBuilder" "inflateIfNeededFor" "(Ljava/lang/String;)V") := ⟨lwT9 (List.mem_of_getElem? (i := 46) rfl), good_of_word rfl⟩
theorem tw1225 : lwG (.methodLink RJ5 397 ⟨"java/lang/AbstractStringBuilder", "inflateIfNeededFor", "(Ljava/lang/String;)V"⟩) := ⟨lwT5 (List.mem_of_getElem? (i := 170) rfl), good_of_word rfl⟩
theorem tw1226 : lwG (.code yJ5_putStringAt_47b60 cJ5_putStringAt_47b60 3 none) := ⟨lwT5 (List.mem_of_getElem? (i := 169) rfl), good_of_word rfl⟩
theorem tw1227 : lwG (.instanceMethod yJ5_putStringAt_47b60) := ⟨lwT5 (List.mem_of_getElem? (i := 168) rfl), good_of_word rfl⟩
theorem tw1228 : lwG (.selects RJ4 ⟨"java/lang/AbstractStringBuilder", "putStringAt", "(ILjava/lang/String;)V"⟩ yJ5_putStringAt_47b60) := ⟨List.mem_append_left _ (List.mem_of_getElem? (i := 5) rfl), good_of_word rfl⟩
theorem tw1229 : lwG (.sameMethod "java/lang/AbstractStringBuilder" "java/lang/AbstractStringBuilder" "putStringAt" "(ILjava/lang/String;)V") := ⟨lwT9 (List.mem_of_getElem? (i := 45) rfl), good_of_word rfl⟩
theorem tw1230 : lwG (.methodLink RJ5 208 ⟨"java/lang/AbstractStringBuilder", "putStringAt", "(ILjava/lang/String;)V"⟩) := ⟨lwT5 (List.mem_of_getElem? (i := 166) rfl), good_of_word rfl⟩
theorem tw1231 : lwG (.fieldLink RJ0 15 "java/lang/String" "coder" "B") := ⟨lwT6 (List.mem_of_getElem? (i := 42) rfl), good_of_word rfl⟩
theorem tw1232 : lwG (.fieldLink RJ0 38 "java/lang/String" "COMPACT_STRINGS" "Z") := ⟨lwT5 (List.mem_of_getElem? (i := 165) rfl), good_of_word rfl⟩
theorem tw1233 : lwG (.code yJ0_coder_7d493 cJ0_coder_7d493 1 (some .byte)) := ⟨lwT5 (List.mem_of_getElem? (i := 164) rfl), good_of_word rfl⟩
theorem tw1234 : lwG (.selects RJ0 yJ0_coder_7d493 yJ0_coder_7d493) := ⟨lwT5 (List.mem_of_getElem? (i := 163) rfl), good_of_word rfl⟩
theorem tw1235 : lwG (.instanceMethod yJ0_coder_7d493) := ⟨lwT5 (List.mem_of_getElem? (i := 162) rfl), good_of_word rfl⟩
theorem tw1236 : lwG (.methodLink RJ0 335 yJ0_coder_7d493) := ⟨lwT5 (List.mem_of_getElem? (i := 161) rfl), good_of_word rfl⟩
theorem tw1237 : lwG (.fieldLink RJ0 9 "java/lang/String" "value" "[B") := ⟨lwT6 (List.mem_of_getElem? (i := 41) rfl), good_of_word rfl⟩
theorem tw1238 : lwG (.code yJ0_length_8abf5 cJ0_length_8abf5 1 (some .int)) := ⟨lwT5 (List.mem_of_getElem? (i := 160) rfl), good_of_word rfl⟩
theorem tw1239 : lwG (.code yJ5_length_8abf5 cJ5_length_8abf5 1 (some .int)) := ⟨lwT6 (List.mem_of_getElem? (i := 9) rfl), good_of_word rfl⟩
theorem tw1240 : lwG (.instanceMethod yJ5_length_8abf5) := ⟨lwT6 (List.mem_of_getElem? (i := 3) rfl), good_of_word rfl⟩
theorem tw1241 : lwG (.sameMethod "java/lang/AbstractStringBuilder" "java/lang/AbstractStringBuilder" "length" "()I") := ⟨lwT6 (List.mem_of_getElem? (i := 4) rfl), good_of_word rfl⟩
theorem tw1242 : lwG (.methodLink RJ4 343 yJ5_length_8abf5) := ⟨lwT6 (List.mem_of_getElem? (i := 8) rfl), good_of_word rfl⟩
theorem tw1243 : lwG (.code yJ4_length_8abf5 cJ4_length_8abf5 1 (some .int)) := ⟨lwT6 (List.mem_of_getElem? (i := 7) rfl), good_of_word rfl⟩
theorem tw1244 : lwG (.selects RJ4 yJ4_length_8abf5 yJ4_length_8abf5) := ⟨lwT9 (List.mem_of_getElem? (i := 50) rfl), good_of_word rfl⟩
theorem tw1245 : lwG (.instanceMethod yJ4_length_8abf5) := ⟨lwT6 (List.mem_of_getElem? (i := 6) rfl), good_of_word rfl⟩
theorem tw1246 : lwG (.methodLink RX6 321 yJ4_length_8abf5) := ⟨lwT6 (List.mem_of_getElem? (i := 107) rfl), good_of_word rfl⟩
theorem tw1247 : lwG (.methodLink RJ0 106 yJ1_inflate_0e8fd) := ⟨lwT5 (List.mem_of_getElem? (i := 199) rfl), good_of_word rfl⟩
theorem tw1248 : lwG (.selects RX7 yX7_renderStreet yX7_renderStreet) := ⟨lwT8 (List.mem_of_getElem? (i := 173) rfl), good_of_word rfl⟩
theorem tw1249 : lwG (.instanceMethod yX7_renderStreet) := ⟨lwT8 (List.mem_of_getElem? (i := 172) rfl), good_of_word rfl⟩
theorem tw1250 : lwG (.methodLink RL 309 yX7_renderStreet) := ⟨lwT8 (List.mem_of_getElem? (i := 171) rfl), good_of_word rfl⟩
theorem tw1251 : lwG (.code yX7_renderStreet cX7_renderStreet 2 (some .int)) := ⟨lwT8 (List.mem_of_getElem? (i := 174) rfl), good_of_word rfl⟩
theorem tw1252 : lwG (.code yX7_puts cX7_puts 2 none) := ⟨lwT8 (List.mem_of_getElem? (i := 182) rfl), good_of_word rfl⟩
theorem tw1253 : lwG (.selects RX7 yX7_puts yX7_puts) := ⟨lwT0 (List.mem_of_getElem? (i := 51) rfl), good_of_word rfl⟩
theorem tw1254 : lwG (.instanceMethod yX7_puts) := ⟨lwT8 (List.mem_of_getElem? (i := 181) rfl), good_of_word rfl⟩
theorem tw1255 : lwG (.methodLink RX7 186 yX7_puts) := ⟨lwT8 (List.mem_of_getElem? (i := 179) rfl), good_of_word rfl⟩
theorem tw1256 : lwG (.code yX7_number cX7_number 2 none) := ⟨lwT8 (List.mem_of_getElem? (i := 178) rfl), good_of_word rfl⟩
theorem tw1257 : lwG (.selects RX7 yX7_number yX7_number) := ⟨lwT0 (List.mem_of_getElem? (i := 50) rfl), good_of_word rfl⟩
theorem tw1258 : lwG (.instanceMethod yX7_number) := ⟨lwT8 (List.mem_of_getElem? (i := 177) rfl), good_of_word rfl⟩
theorem tw1259 : lwG (.methodLink RX7 183 yX7_number) := ⟨lwT8 (List.mem_of_getElem? (i := 175) rfl), good_of_word rfl⟩
theorem tw1260 : lwG (.fieldLink RX7 180 "SnowDispatcherModel" "lined" "I") := ⟨lwT7 (List.mem_of_getElem? (i := 44) rfl), good_of_word rfl⟩
theorem tw1261 : lwG (.static yL_renderQueue) := ⟨lwT6 (List.mem_of_getElem? (i := 109) rfl), good_of_word rfl⟩
theorem tw1262 : lwG (.methodLink RL 310 yL_renderQueue) := ⟨lwT6 (List.mem_of_getElem? (i := 108) rfl), good_of_word rfl⟩
theorem tw1263 : lwG (.codeWith yL_renderQueue cL_renderQueue 4 (some .int) [(0, 9, 12, 13)]) := ⟨lwT6 (List.mem_of_getElem? (i := 110) rfl), good_of_word rfl⟩
theorem tw1264 : lwG (.selects RX6 yX6_renderQueue yX6_renderQueue) := ⟨lwT6 (List.mem_of_getElem? (i := 113) rfl), good_of_word rfl⟩
theorem tw1265 : lwG (.instanceMethod yX6_renderQueue) := ⟨lwT6 (List.mem_of_getElem? (i := 112) rfl), good_of_word rfl⟩
theorem tw1266 : lwG (.methodLink RL 127 yX6_renderQueue) := ⟨lwT6 (List.mem_of_getElem? (i := 111) rfl), good_of_word rfl⟩
theorem tw1267 : lwG (.code yX6_renderQueue cX6_renderQueue 4 (some .int)) := ⟨lwT6 (List.mem_of_getElem? (i := 114) rfl), good_of_word rfl⟩
theorem tw1268 : lwG (.selects RX7 yX7_renderQueue yX7_renderQueue) := ⟨lwT8 (List.mem_of_getElem? (i := 185) rfl), good_of_word rfl⟩
theorem tw1269 : lwG (.instanceMethod yX7_renderQueue) := ⟨lwT8 (List.mem_of_getElem? (i := 184) rfl), good_of_word rfl⟩
theorem tw1270 : lwG (.methodLink RL 312 yX7_renderQueue) := ⟨lwT8 (List.mem_of_getElem? (i := 183) rfl), good_of_word rfl⟩
theorem tw1271 : lwG (.code yX7_renderQueue cX7_renderQueue 3 (some .int)) := ⟨lwT8 (List.mem_of_getElem? (i := 186) rfl), good_of_word rfl⟩
theorem tw1272 : lwG (.static yL_outputAt) := ⟨lwT6 (List.mem_of_getElem? (i := 116) rfl), good_of_word rfl⟩
theorem tw1273 : lwG (.methodLink RL 313 yL_outputAt) := ⟨lwT6 (List.mem_of_getElem? (i := 115) rfl), good_of_word rfl⟩
theorem tw1274 : lwG (.codeWith yL_outputAt cL_outputAt 4 (some .int) [(0, 9, 12, 13)]) := ⟨lwT6 (List.mem_of_getElem? (i := 117) rfl), good_of_word rfl⟩
theorem tw1275 : lwG (.selects RX6 yX6_outputAt yX6_outputAt) := ⟨lwT6 (List.mem_of_getElem? (i := 120) rfl), good_of_word rfl⟩
theorem tw1276 : lwG (.instanceMethod yX6_outputAt) := ⟨lwT6 (List.mem_of_getElem? (i := 119) rfl), good_of_word rfl⟩
theorem tw1277 : lwG (.methodLink RL 130 yX6_outputAt) := ⟨lwT6 (List.mem_of_getElem? (i := 118) rfl), good_of_word rfl⟩
theorem tw1278 : lwG (.code yX6_outputAt cX6_outputAt 2 (some .char)) := ⟨lwT6 (List.mem_of_getElem? (i := 121) rfl), good_of_word rfl⟩
theorem tw1279 : lwG (.code yJ5_charAt_5068e cJ5_charAt_5068e 5 (some .char)) := ⟨lwT6 (List.mem_of_getElem? (i := 129) rfl), good_of_word rfl⟩
theorem tw1280 : lwG (.instanceMethod yJ5_charAt_5068e) := ⟨lwT6 (List.mem_of_getElem? (i := 128) rfl), good_of_word rfl⟩
theorem tw1281 : lwG (.sameMethod "java/lang/AbstractStringBuilder" "java/lang/AbstractStringBuilder" "charAt" "(I)C") := ⟨lwT9 (List.mem_of_getElem? (i := 51) rfl), good_of_word rfl⟩
theorem tw1282 : lwG (.methodLink RJ4 329 yJ5_charAt_5068e) := ⟨lwT6 (List.mem_of_getElem? (i := 127) rfl), good_of_word rfl⟩
theorem tw1283 : lwG (.code yJ4_charAt_5068e cJ4_charAt_5068e 2 (some .char)) := ⟨lwT6 (List.mem_of_getElem? (i := 126) rfl), good_of_word rfl⟩
theorem tw1284 : lwG (.selects RJ4 yJ4_charAt_5068e yJ4_charAt_5068e) := ⟨lwT6 (List.mem_of_getElem? (i := 125) rfl), good_of_word rfl⟩
theorem tw1285 : lwG (.instanceMethod yJ4_charAt_5068e) := ⟨lwT6 (List.mem_of_getElem? (i := 124) rfl), good_of_word rfl⟩
theorem tw1286 : lwG (.methodLink RX6 326 yJ4_charAt_5068e) := ⟨lwT6 (List.mem_of_getElem? (i := 123) rfl), good_of_word rfl⟩
theorem tw1287 : lwG (.code yJ2_getChar_3b067 cJ2_getChar_3b067 2 (some .char)) := ⟨lwT6 (List.mem_of_getElem? (i := 36) rfl), good_of_word rfl⟩
theorem tw1288 : lwG (.static yJ2_getChar_3b067) := ⟨lwT6 (List.mem_of_getElem? (i := 35) rfl), good_of_word rfl⟩
theorem tw1289 : lwG (.methodLink RJ5 148 yJ2_getChar_3b067) := ⟨lwT6 (List.mem_of_getElem? (i := 132) rfl), good_of_word rfl⟩
theorem tw1290 : lwG (.methodLink RJ5 144 yJ0_checkIndex_df160) := ⟨lwT6 (List.mem_of_getElem? (i := 131) rfl), good_of_word rfl⟩
theorem tw1291 : lwG (.methodLink RJ5 138 Lib.Math.min.name) := ⟨lwT6 (List.mem_of_getElem? (i := 130) rfl), good_of_word rfl⟩
theorem tw1292 : lwG (.selects RX7 yX7_outputAt yX7_outputAt) := ⟨lwT8 (List.mem_of_getElem? (i := 189) rfl), good_of_word rfl⟩
theorem tw1293 : lwG (.instanceMethod yX7_outputAt) := ⟨lwT8 (List.mem_of_getElem? (i := 188) rfl), good_of_word rfl⟩
theorem tw1294 : lwG (.methodLink RL 315 yX7_outputAt) := ⟨lwT8 (List.mem_of_getElem? (i := 187) rfl), good_of_word rfl⟩
theorem tw1295 : lwG (.code yX7_outputAt cX7_outputAt 2 (some .char)) := ⟨lwT8 (List.mem_of_getElem? (i := 190) rfl), good_of_word rfl⟩
theorem tw1296 : lwG (.static yL_type) := ⟨lwT6 (List.mem_of_getElem? (i := 134) rfl), good_of_word rfl⟩
theorem tw1297 : lwG (.methodLink RL 316 yL_type) := ⟨lwT6 (List.mem_of_getElem? (i := 133) rfl), good_of_word rfl⟩
theorem tw1298 : lwG (.codeWith yL_type cL_type 4 (some .int) [(0, 9, 12, 15), (0, 9, 15, 17)]) := ⟨lwT6 (List.mem_of_getElem? (i := 135) rfl), good_of_word rfl⟩
theorem tw1299 : lwG (.selects RX6 yX6_type yX6_type) := ⟨lwT6 (List.mem_of_getElem? (i := 138) rfl), good_of_word rfl⟩
theorem tw1300 : lwG (.instanceMethod yX6_type) := ⟨lwT6 (List.mem_of_getElem? (i := 137) rfl), good_of_word rfl⟩
theorem tw1301 : lwG (.methodLink RL 133 yX6_type) := ⟨lwT6 (List.mem_of_getElem? (i := 136) rfl), good_of_word rfl⟩
theorem tw1302 : lwG (.code yX6_type cX6_type 2 (some .int)) := ⟨lwT6 (List.mem_of_getElem? (i := 139) rfl), good_of_word rfl⟩
theorem tw1303 : lwG (.fieldLink RX6 332 "SnowDispatcher$Script" "text" "Ljava/lang/StringBuilder;") := ⟨lwT2 (List.mem_of_getElem? (i := 12) rfl), good_of_word rfl⟩
theorem tw1304 : lwG (.selects RX7 yX7_type yX7_type) := ⟨lwT8 (List.mem_of_getElem? (i := 193) rfl), good_of_word rfl⟩
theorem tw1305 : lwG (.instanceMethod yX7_type) := ⟨lwT8 (List.mem_of_getElem? (i := 192) rfl), good_of_word rfl⟩
theorem tw1306 : lwG (.methodLink RL 319 yX7_type) := ⟨lwT8 (List.mem_of_getElem? (i := 191) rfl), good_of_word rfl⟩
theorem tw1307 : lwG (.code yX7_type cX7_type 2 (some .int)) := ⟨lwT8 (List.mem_of_getElem? (i := 194) rfl), good_of_word rfl⟩
theorem tw1308 : lwG (.fieldLink RX7 189 "SnowDispatcherModel" "taped" "I") := ⟨lwT7 (List.mem_of_getElem? (i := 47) rfl), good_of_word rfl⟩
theorem tw1309 : lwG (.static yL_runScript) := ⟨lwT6 (List.mem_of_getElem? (i := 143) rfl), good_of_word rfl⟩
theorem tw1310 : lwG (.methodLink RL 320 yL_runScript) := ⟨lwT6 (List.mem_of_getElem? (i := 142) rfl), good_of_word rfl⟩
theorem tw1311 : lwG (.codeWith yL_runScript cL_runScript 3 (some .int) [(0, 8, 11, 15), (0, 8, 14, 17)]) := ⟨lwT6 (List.mem_of_getElem? (i := 144) rfl), good_of_word rfl⟩
theorem tw1312 : lwG (.selects RX6 yX6_runScript yX6_runScript) := ⟨lwT6 (List.mem_of_getElem? (i := 147) rfl), good_of_word rfl⟩
theorem tw1313 : lwG (.instanceMethod yX6_runScript) := ⟨lwT6 (List.mem_of_getElem? (i := 146) rfl), good_of_word rfl⟩
theorem tw1314 : lwG (.methodLink RL 137 yX6_runScript) := ⟨lwT6 (List.mem_of_getElem? (i := 145) rfl), good_of_word rfl⟩
theorem tw1315 : lwG (.code yX6_runScript cX6_runScript 3 (some .int)) := ⟨lwT6 (List.mem_of_getElem? (i := 148) rfl), good_of_word rfl⟩
theorem tw1316 : lwG (.methodLink RX3 74 Lib.Math.max.name) := ⟨lwT6 (List.mem_of_getElem? (i := 209) rfl), good_of_word rfl⟩
theorem tw1317 : lwG (.fieldLink RX3 67 "SnowDispatcher$Script" "verb" "I") := ⟨lwT2 (List.mem_of_getElem? (i := 16) rfl), good_of_word rfl⟩
theorem tw1318 : lwG (.code yX3_readCommand cX3_readCommand 5 (some .boolean)) := ⟨lwT6 (List.mem_of_getElem? (i := 156) rfl), good_of_word rfl⟩
theorem tw1319 : lwG (.selects RX3 yX3_readCommand yX3_readCommand) := ⟨lwT0 (List.mem_of_getElem? (i := 12) rfl), good_of_word rfl⟩
theorem tw1320 : lwG (.instanceMethod yX3_readCommand) := ⟨lwT6 (List.mem_of_getElem? (i := 155) rfl), good_of_word rfl⟩
theorem tw1321 : lwG (.methodLink RX3 44 yX3_readCommand) := ⟨lwT6 (List.mem_of_getElem? (i := 153) rfl), good_of_word rfl⟩
theorem tw1322 : lwG (.fieldLink RX3 40 "SnowDispatcher$Script" "at" "I") := ⟨lwT2 (List.mem_of_getElem? (i := 14) rfl), good_of_word rfl⟩
theorem tw1323 : lwG (.code yX3_countCommands cX3_countCommands 2 (some .int)) := ⟨lwT6 (List.mem_of_getElem? (i := 152) rfl), good_of_word rfl⟩
theorem tw1324 : lwG (.selects RX3 yX3_countCommands yX3_countCommands) := ⟨lwT6 (List.mem_of_getElem? (i := 151) rfl), good_of_word rfl⟩
theorem tw1325 : lwG (.instanceMethod yX3_countCommands) := ⟨lwT6 (List.mem_of_getElem? (i := 150) rfl), good_of_word rfl⟩
theorem tw1326 : lwG (.methodLink RX6 337 yX3_countCommands) := ⟨lwT6 (List.mem_of_getElem? (i := 149) rfl), good_of_word rfl⟩
theorem tw1327 : lwG (.fieldLink RX6 340 "SnowDispatcher$Script" "at" "I") := ⟨lwT2 (List.mem_of_getElem? (i := 15) rfl), good_of_word rfl⟩
theorem tw1328 : lwG (.instanceMethod yJ0_charAt_5068e) := ⟨lwT6 (List.mem_of_getElem? (i := 175) rfl), good_of_word rfl⟩
theorem tw1329 : lwG (.methodLink RX3 80 yJ0_charAt_5068e) := ⟨lwT6 (List.mem_of_getElem? (i := 174) rfl), good_of_word rfl⟩
theorem tw1330 : lwG (.methodLink RX3 64 yJ0_length_8abf5) := ⟨lwT6 (List.mem_of_getElem? (i := 173) rfl), good_of_word rfl⟩
theorem tw1331 : lwG (.code yX3_fittingSigns cX3_fittingSigns 3 (some .int)) := ⟨lwT6 (List.mem_of_getElem? (i := 172) rfl), good_of_word rfl⟩
theorem tw1332 : lwG (.selects RX3 yX3_fittingSigns yX3_fittingSigns) := ⟨lwT0 (List.mem_of_getElem? (i := 13) rfl), good_of_word rfl⟩
theorem tw1333 : lwG (.instanceMethod yX3_fittingSigns) := ⟨lwT6 (List.mem_of_getElem? (i := 171) rfl), good_of_word rfl⟩
theorem tw1334 : lwG (.methodLink RX3 60 yX3_fittingSigns) := ⟨lwT6 (List.mem_of_getElem? (i := 169) rfl), good_of_word rfl⟩
theorem tw1335 : lwG (.code yX3_formOf cX3_formOf 1 (some (.object "java/lang/String"))) := ⟨lwT6 (List.mem_of_getElem? (i := 159) rfl), good_of_word rfl⟩
theorem tw1336 : lwG (.static yX3_formOf) := ⟨lwT6 (List.mem_of_getElem? (i := 158) rfl), good_of_word rfl⟩
theorem tw1337 : lwG (.methodLink RX3 56 yX3_formOf) := ⟨lwT6 (List.mem_of_getElem? (i := 157) rfl), good_of_word rfl⟩
theorem tw1338 : lwG (.code yJ2_charAt_3b067 cJ2_charAt_3b067 2 (some .char)) := ⟨lwT6 (List.mem_of_getElem? (i := 188) rfl), good_of_word rfl⟩
theorem tw1339 : lwG (.static yJ2_charAt_3b067) := ⟨lwT6 (List.mem_of_getElem? (i := 187) rfl), good_of_word rfl⟩
theorem tw1340 : lwG (.methodLink RJ0 498 yJ2_charAt_3b067) := ⟨lwT6 (List.mem_of_getElem? (i := 186) rfl), good_of_word rfl⟩
theorem tw1341 : lwG (.methodLink RJ1 9 yJ0_checkIndex_df160) := ⟨lwT6 (List.mem_of_getElem? (i := 185) rfl), good_of_word rfl⟩
theorem tw1342 : lwG (.code yJ1_charAt_3b067 cJ1_charAt_3b067 2 (some .char)) := ⟨lwT6 (List.mem_of_getElem? (i := 184) rfl), good_of_word rfl⟩
theorem tw1343 : lwG (.static yJ1_charAt_3b067) := ⟨lwT6 (List.mem_of_getElem? (i := 183) rfl), good_of_word rfl⟩
theorem tw1344 : lwG (.methodLink RJ0 495 yJ1_charAt_3b067) := ⟨lwT6 (List.mem_of_getElem? (i := 182) rfl), good_of_word rfl⟩
theorem tw1345 : lwG (.code yJ0_isLatin1_aae02 cJ0_isLatin1_aae02 1 (some .boolean)) := ⟨lwT6 (List.mem_of_getElem? (i := 181) rfl), good_of_word rfl⟩
theorem tw1346 : lwG (.selects RJ0 yJ0_isLatin1_aae02 yJ0_isLatin1_aae02) := ⟨lwT6 (List.mem_of_getElem? (i := 180) rfl), good_of_word rfl⟩
theorem tw1347 : lwG (.instanceMethod yJ0_isLatin1_aae02) := ⟨lwT6 (List.mem_of_getElem? (i := 179) rfl), good_of_word rfl⟩
theorem tw1348 : lwG (.methodLink RJ0 492 yJ0_isLatin1_aae02) := ⟨lwT6 (List.mem_of_getElem? (i := 178) rfl), good_of_word rfl⟩
theorem tw1349 : lwG (.code yJ0_charAt_5068e cJ0_charAt_5068e 2 (some .char)) := ⟨lwT6 (List.mem_of_getElem? (i := 177) rfl), good_of_word rfl⟩
theorem tw1350 : lwG (.selects RJ0 yJ0_charAt_5068e yJ0_charAt_5068e) := ⟨lwT6 (List.mem_of_getElem? (i := 176) rfl), good_of_word rfl⟩
theorem tw1351 : lwG (.methodLink RX3 48 yJ4_length_8abf5) := ⟨lwT6 (List.mem_of_getElem? (i := 193) rfl), good_of_word rfl⟩
theorem tw1352 : lwG (.code yX3_signAt cX3_signAt 2 (some .char)) := ⟨lwT6 (List.mem_of_getElem? (i := 192) rfl), good_of_word rfl⟩
theorem tw1353 : lwG (.selects RX3 yX3_signAt yX3_signAt) := ⟨lwT0 (List.mem_of_getElem? (i := 14) rfl), good_of_word rfl⟩
theorem tw1354 : lwG (.instanceMethod yX3_signAt) := ⟨lwT6 (List.mem_of_getElem? (i := 191) rfl), good_of_word rfl⟩
theorem tw1355 : lwG (.methodLink RX3 52 yX3_signAt) := ⟨lwT6 (List.mem_of_getElem? (i := 189) rfl), good_of_word rfl⟩
theorem tw1356 : lwG (.methodLink RJ2 71 yJ2_getChar_3b067) := ⟨lwT6 (List.mem_of_getElem? (i := 34) rfl), good_of_word rfl⟩
theorem tw1357 : lwG (.code yX3_isDigit cX3_isDigit 1 (some .boolean)) := ⟨lwT6 (List.mem_of_getElem? (i := 200) rfl), good_of_word rfl⟩
theorem tw1358 : lwG (.static yX3_isDigit) := ⟨lwT6 (List.mem_of_getElem? (i := 199) rfl), good_of_word rfl⟩
theorem tw1359 : lwG (.methodLink RX3 87 yX3_isDigit) := ⟨lwT6 (List.mem_of_getElem? (i := 198) rfl), good_of_word rfl⟩
theorem tw1360 : lwG (.code yX3_fits cX3_fits 2 (some .boolean)) := ⟨lwT6 (List.mem_of_getElem? (i := 197) rfl), good_of_word rfl⟩
theorem tw1361 : lwG (.static yX3_fits) := ⟨lwT6 (List.mem_of_getElem? (i := 196) rfl), good_of_word rfl⟩
theorem tw1362 : lwG (.methodLink RX3 83 yX3_fits) := ⟨lwT6 (List.mem_of_getElem? (i := 195) rfl), good_of_word rfl⟩
theorem tw1363 : lwG (.methodLink RX3 91 yJ4_charAt_5068e) := ⟨lwT6 (List.mem_of_getElem? (i := 194) rfl), good_of_word rfl⟩
theorem tw1364 : lwG (.code yX3_readNumber cX3_readNumber 3 (some .int)) := ⟨lwT6 (List.mem_of_getElem? (i := 208) rfl), good_of_word rfl⟩
theorem tw1365 : lwG (.selects RX3 yX3_readNumber yX3_readNumber) := ⟨lwT0 (List.mem_of_getElem? (i := 16) rfl), good_of_word rfl⟩
theorem tw1366 : lwG (.instanceMethod yX3_readNumber) := ⟨lwT6 (List.mem_of_getElem? (i := 207) rfl), good_of_word rfl⟩
theorem tw1367 : lwG (.methodLink RX3 92 yX3_readNumber) := ⟨lwT6 (List.mem_of_getElem? (i := 205) rfl), good_of_word rfl⟩
theorem tw1368 : lwG (.code yX3_readValues cX3_readValues 5 none) := ⟨lwT6 (List.mem_of_getElem? (i := 204) rfl), good_of_word rfl⟩
theorem tw1369 : lwG (.selects RX3 yX3_readValues yX3_readValues) := ⟨lwT0 (List.mem_of_getElem? (i := 15) rfl), good_of_word rfl⟩
theorem tw1370 : lwG (.instanceMethod yX3_readValues) := ⟨lwT6 (List.mem_of_getElem? (i := 203) rfl), good_of_word rfl⟩
theorem tw1371 : lwG (.methodLink RX3 70 yX3_readValues) := ⟨lwT6 (List.mem_of_getElem? (i := 201) rfl), good_of_word rfl⟩
theorem tw1372 : lwG (.code yX3_readNext cX3_readNext 1 none) := ⟨lwT6 (List.mem_of_getElem? (i := 218) rfl), good_of_word rfl⟩
theorem tw1373 : lwG (.selects RX3 yX3_readNext yX3_readNext) := ⟨lwT6 (List.mem_of_getElem? (i := 217) rfl), good_of_word rfl⟩
theorem tw1374 : lwG (.instanceMethod yX3_readNext) := ⟨lwT6 (List.mem_of_getElem? (i := 216) rfl), good_of_word rfl⟩
theorem tw1375 : lwG (.methodLink RX6 353 yX3_readNext) := ⟨lwT6 (List.mem_of_getElem? (i := 215) rfl), good_of_word rfl⟩
theorem tw1376 : lwG (.fieldLink RX6 356 "SnowDispatcher$Script" "verb" "I") := ⟨lwT2 (List.mem_of_getElem? (i := 17) rfl), good_of_word rfl⟩
theorem tw1377 : lwG (.code yX6_obeyNext cX6_obeyNext 1 (some .int)) := ⟨lwT6 (List.mem_of_getElem? (i := 214) rfl), good_of_word rfl⟩
theorem tw1378 : lwG (.selects RX6 yX6_obeyNext yX6_obeyNext) := ⟨lwT0 (List.mem_of_getElem? (i := 17) rfl), good_of_word rfl⟩
theorem tw1379 : lwG (.instanceMethod yX6_obeyNext) := ⟨lwT6 (List.mem_of_getElem? (i := 213) rfl), good_of_word rfl⟩
theorem tw1380 : lwG (.methodLink RX6 345 yX6_obeyNext) := ⟨lwT6 (List.mem_of_getElem? (i := 211) rfl), good_of_word rfl⟩
theorem tw1381 : lwG (.code yX3_value cX3_value 2 (some .int)) := ⟨lwT6 (List.mem_of_getElem? (i := 222) rfl), good_of_word rfl⟩
theorem tw1382 : lwG (.selects RX3 yX3_value yX3_value) := ⟨lwT6 (List.mem_of_getElem? (i := 221) rfl), good_of_word rfl⟩
theorem tw1383 : lwG (.instanceMethod yX3_value) := ⟨lwT6 (List.mem_of_getElem? (i := 220) rfl), good_of_word rfl⟩
theorem tw1384 : lwG (.methodLink RX6 359 yX3_value) := ⟨lwT6 (List.mem_of_getElem? (i := 219) rfl), good_of_word rfl⟩
theorem tw1385 : lwG (.code yX0_read cX0_read 3 none) := ⟨lwT6 (List.mem_of_getElem? (i := 226) rfl), good_of_word rfl⟩
theorem tw1386 : lwG (.selects RX0 yX0_read yX0_read) := ⟨lwT6 (List.mem_of_getElem? (i := 225) rfl), good_of_word rfl⟩
theorem tw1387 : lwG (.instanceMethod yX0_read) := ⟨lwT6 (List.mem_of_getElem? (i := 224) rfl), good_of_word rfl⟩
theorem tw1388 : lwG (.methodLink RX6 348 yX0_read) := ⟨lwT6 (List.mem_of_getElem? (i := 223) rfl), good_of_word rfl⟩
theorem tw1389 : lwG (.selects RX7 yX7_runScript yX7_runScript) := ⟨lwT8 (List.mem_of_getElem? (i := 197) rfl), good_of_word rfl⟩
theorem tw1390 : lwG (.instanceMethod yX7_runScript) := ⟨lwT8 (List.mem_of_getElem? (i := 196) rfl), good_of_word rfl⟩
theorem tw1391 : lwG (.methodLink RL 323 yX7_runScript) := ⟨lwT8 (List.mem_of_getElem? (i := 195) rfl), good_of_word rfl⟩
theorem tw1392 : lwG (.code yX7_runScript cX7_runScript 3 (some .int)) := ⟨lwT8 (List.mem_of_getElem? (i := 198) rfl), good_of_word rfl⟩
theorem tw1393 : lwG (.code yX7_sign cX7_sign 1 (some .int)) := ⟨lwT8 (List.mem_of_getElem? (i := 210) rfl), good_of_word rfl⟩
theorem tw1394 : lwG (.selects RX7 yX7_sign yX7_sign) := ⟨lwT0 (List.mem_of_getElem? (i := 54) rfl), good_of_word rfl⟩
theorem tw1395 : lwG (.instanceMethod yX7_sign) := ⟨lwT8 (List.mem_of_getElem? (i := 209) rfl), good_of_word rfl⟩
theorem tw1396 : lwG (.methodLink RX7 195 yX7_sign) := ⟨lwT8 (List.mem_of_getElem? (i := 207) rfl), good_of_word rfl⟩
theorem tw1397 : lwG (.code yX7_readsCommand cX7_readsCommand 3 (some .boolean)) := ⟨lwT8 (List.mem_of_getElem? (i := 206) rfl), good_of_word rfl⟩
theorem tw1398 : lwG (.selects RX7 yX7_readsCommand yX7_readsCommand) := ⟨lwT0 (List.mem_of_getElem? (i := 53) rfl), good_of_word rfl⟩
theorem tw1399 : lwG (.instanceMethod yX7_readsCommand) := ⟨lwT8 (List.mem_of_getElem? (i := 205) rfl), good_of_word rfl⟩
theorem tw1400 : lwG (.methodLink RX7 254 yX7_readsCommand) := ⟨lwT8 (List.mem_of_getElem? (i := 203) rfl), good_of_word rfl⟩
theorem tw1401 : lwG (.code yX7_isScript cX7_isScript 2 (some .boolean)) := ⟨lwT8 (List.mem_of_getElem? (i := 202) rfl), good_of_word rfl⟩
theorem tw1402 : lwG (.selects RX7 yX7_isScript yX7_isScript) := ⟨lwT0 (List.mem_of_getElem? (i := 52) rfl), good_of_word rfl⟩
theorem tw1403 : lwG (.instanceMethod yX7_isScript) := ⟨lwT8 (List.mem_of_getElem? (i := 201) rfl), good_of_word rfl⟩
theorem tw1404 : lwG (.methodLink RX7 258 yX7_isScript) := ⟨lwT8 (List.mem_of_getElem? (i := 199) rfl), good_of_word rfl⟩
theorem tw1405 : lwG (.fieldLink RX7 245 "SnowDispatcherModel" "commandMany" "I") := ⟨lwT7 (List.mem_of_getElem? (i := 49) rfl), good_of_word rfl⟩
theorem tw1406 : lwG (.fieldLink RX7 192 "SnowDispatcherModel" "here" "I") := ⟨lwT7 (List.mem_of_getElem? (i := 48) rfl), good_of_word rfl⟩
theorem tw1407 : lwG (.methodLink RX7 199 yJ0_length_8abf5) := ⟨lwT8 (List.mem_of_getElem? (i := 231) rfl), good_of_word rfl⟩
theorem tw1408 : lwG (.code yX7_isWord cX7_isWord 3 (some .boolean)) := ⟨lwT8 (List.mem_of_getElem? (i := 230) rfl), good_of_word rfl⟩
theorem tw1409 : lwG (.selects RX7 yX7_isWord yX7_isWord) := ⟨lwT0 (List.mem_of_getElem? (i := 58) rfl), good_of_word rfl⟩
theorem tw1410 : lwG (.instanceMethod yX7_isWord) := ⟨lwT8 (List.mem_of_getElem? (i := 229) rfl), good_of_word rfl⟩
theorem tw1411 : lwG (.methodLink RX7 213 yX7_isWord) := ⟨lwT8 (List.mem_of_getElem? (i := 227) rfl), good_of_word rfl⟩
theorem tw1412 : lwG (.code yX7_isSign cX7_isSign 3 (some .boolean)) := ⟨lwT8 (List.mem_of_getElem? (i := 225) rfl), good_of_word rfl⟩
theorem tw1413 : lwG (.selects RX7 yX7_isSign yX7_isSign) := ⟨lwT0 (List.mem_of_getElem? (i := 57) rfl), good_of_word rfl⟩
theorem tw1414 : lwG (.instanceMethod yX7_isSign) := ⟨lwT8 (List.mem_of_getElem? (i := 224) rfl), good_of_word rfl⟩
theorem tw1415 : lwG (.methodLink RX7 208 yX7_isSign) := ⟨lwT8 (List.mem_of_getElem? (i := 222) rfl), good_of_word rfl⟩
theorem tw1416 : lwG (.code yX7_readsS cX7_readsS 2 (some .boolean)) := ⟨lwT8 (List.mem_of_getElem? (i := 221) rfl), good_of_word rfl⟩
theorem tw1417 : lwG (.selects RX7 yX7_readsS yX7_readsS) := ⟨lwT0 (List.mem_of_getElem? (i := 56) rfl), good_of_word rfl⟩
theorem tw1418 : lwG (.instanceMethod yX7_readsS) := ⟨lwT8 (List.mem_of_getElem? (i := 220) rfl), good_of_word rfl⟩
theorem tw1419 : lwG (.methodLink RX7 231 yX7_readsS) := ⟨lwT8 (List.mem_of_getElem? (i := 218) rfl), good_of_word rfl⟩
theorem tw1420 : lwG (.code yX7_readsRest cX7_readsRest 3 (some .boolean)) := ⟨lwT8 (List.mem_of_getElem? (i := 217) rfl), good_of_word rfl⟩
theorem tw1421 : lwG (.selects RX7 yX7_readsRest yX7_readsRest) := ⟨lwT0 (List.mem_of_getElem? (i := 55) rfl), good_of_word rfl⟩
theorem tw1422 : lwG (.instanceMethod yX7_readsRest) := ⟨lwT8 (List.mem_of_getElem? (i := 216) rfl), good_of_word rfl⟩
theorem tw1423 : lwG (.methodLink RX7 251 yX7_readsRest) := ⟨lwT8 (List.mem_of_getElem? (i := 214) rfl), good_of_word rfl⟩
theorem tw1424 : lwG (.code yX7_isFirst cX7_isFirst 1 (some .boolean)) := ⟨lwT8 (List.mem_of_getElem? (i := 213) rfl), good_of_word rfl⟩
theorem tw1425 : lwG (.static yX7_isFirst) := ⟨lwT8 (List.mem_of_getElem? (i := 212) rfl), good_of_word rfl⟩
theorem tw1426 : lwG (.methodLink RX7 248 yX7_isFirst) := ⟨lwT8 (List.mem_of_getElem? (i := 211) rfl), good_of_word rfl⟩
theorem tw1427 : lwG (.methodLink RX7 204 yJ0_charAt_5068e) := ⟨lwT8 (List.mem_of_getElem? (i := 232) rfl), good_of_word rfl⟩
theorem tw1428 : lwG (.code yX7_isNumber cX7_isNumber 5 (some .boolean)) := ⟨lwT8 (List.mem_of_getElem? (i := 236) rfl), good_of_word rfl⟩
theorem tw1429 : lwG (.selects RX7 yX7_isNumber yX7_isNumber) := ⟨lwT0 (List.mem_of_getElem? (i := 59) rfl), good_of_word rfl⟩
theorem tw1430 : lwG (.instanceMethod yX7_isNumber) := ⟨lwT8 (List.mem_of_getElem? (i := 235) rfl), good_of_word rfl⟩
theorem tw1431 : lwG (.methodLink RX7 217 yX7_isNumber) := ⟨lwT8 (List.mem_of_getElem? (i := 233) rfl), good_of_word rfl⟩
theorem tw1432 : lwG (.instanceMethod yX7_does) := ⟨lwT9 (List.mem_of_getElem? (i := 15) rfl), good_of_word rfl⟩
theorem tw1433 : lwG (.methodLink RX7 261 yX7_does) := ⟨lwT9 (List.mem_of_getElem? (i := 13) rfl), good_of_word rfl⟩
theorem tw1434 : lwG (.code yX7_readsW cX7_readsW 2 (some .boolean)) := ⟨lwT9 (List.mem_of_getElem? (i := 6) rfl), good_of_word rfl⟩
theorem tw1435 : lwG (.selects RX7 yX7_readsW yX7_readsW) := ⟨lwT0 (List.mem_of_getElem? (i := 61) rfl), good_of_word rfl⟩
theorem tw1436 : lwG (.instanceMethod yX7_readsW) := ⟨lwT9 (List.mem_of_getElem? (i := 5) rfl), good_of_word rfl⟩
theorem tw1437 : lwG (.methodLink RX7 234 yX7_readsW) := ⟨lwT9 (List.mem_of_getElem? (i := 3) rfl), good_of_word rfl⟩
theorem tw1438 : lwG (.code yX7_isClass cX7_isClass 2 (some .boolean)) := ⟨lwT9 (List.mem_of_getElem? (i := 0) rfl), good_of_word rfl⟩
theorem tw1439 : lwG (.selects RX7 yX7_isClass yX7_isClass) := ⟨lwT0 (List.mem_of_getElem? (i := 60) rfl), good_of_word rfl⟩
theorem tw1440 : lwG (.instanceMethod yX7_isClass) := ⟨lwT8 (List.mem_of_getElem? (i := 239) rfl), good_of_word rfl⟩
theorem tw1441 : lwG (.methodLink RX7 220 yX7_isClass) := ⟨lwT8 (List.mem_of_getElem? (i := 237) rfl), good_of_word rfl⟩
theorem tw1442 : lwG (.code yX7_does cX7_does 4 (some .int)) := ⟨lwT9 (List.mem_of_getElem? (i := 16) rfl), good_of_word rfl⟩
theorem tw1443 : lwG (.selects RX7 yX7_does yX7_does) := ⟨lwT0 (List.mem_of_getElem? (i := 62) rfl), good_of_word rfl⟩
theorem tw1444 : lwG (.static yL_errorPosition) := ⟨lwT6 (List.mem_of_getElem? (i := 229) rfl), good_of_word rfl⟩
theorem tw1445 : lwG (.methodLink RL 324 yL_errorPosition) := ⟨lwT6 (List.mem_of_getElem? (i := 228) rfl), good_of_word rfl⟩
theorem tw1446 : lwG (.codeWith yL_errorPosition cL_errorPosition 3 (some .int) [(0, 8, 11, 30)]) := ⟨lwT6 (List.mem_of_getElem? (i := 230) rfl), good_of_word rfl⟩
theorem tw1447 : lwG (.selects RX6 yX6_errorPosition yX6_errorPosition) := ⟨lwT6 (List.mem_of_getElem? (i := 233) rfl), good_of_word rfl⟩
theorem tw1448 : lwG (.instanceMethod yX6_errorPosition) := ⟨lwT6 (List.mem_of_getElem? (i := 232) rfl), good_of_word rfl⟩
theorem tw1449 : lwG (.methodLink RL 141 yX6_errorPosition) := ⟨lwT6 (List.mem_of_getElem? (i := 231) rfl), good_of_word rfl⟩
theorem tw1450 : lwG (.code yX6_errorPosition cX6_errorPosition 1 (some .int)) := ⟨lwT6 (List.mem_of_getElem? (i := 234) rfl), good_of_word rfl⟩
theorem tw1451 : lwG (.selects RX7 yX7_errorPosition yX7_errorPosition) := ⟨lwT9 (List.mem_of_getElem? (i := 19) rfl), good_of_word rfl⟩
theorem tw1452 : lwG (.instanceMethod yX7_errorPosition) := ⟨lwT9 (List.mem_of_getElem? (i := 18) rfl), good_of_word rfl⟩
theorem tw1453 : lwG (.methodLink RL 326 yX7_errorPosition) := ⟨lwT9 (List.mem_of_getElem? (i := 17) rfl), good_of_word rfl⟩
theorem tw1454 : lwG (.code yX7_errorPosition cX7_errorPosition 1 (some .int)) := ⟨lwT9 (List.mem_of_getElem? (i := 20) rfl), good_of_word rfl⟩
theorem tw1455 : lwG (.static yL_failedCommand) := ⟨lwT6 (List.mem_of_getElem? (i := 237) rfl), good_of_word rfl⟩
theorem tw1456 : lwG (.methodLink RL 327 yL_failedCommand) := ⟨lwT6 (List.mem_of_getElem? (i := 236) rfl), good_of_word rfl⟩
theorem tw1457 : lwG (.codeWith yL_failedCommand cL_failedCommand 3 (some .int) [(0, 8, 11, 30)]) := ⟨lwT6 (List.mem_of_getElem? (i := 238) rfl), good_of_word rfl⟩
theorem tw1458 : lwG (.selects RX6 yX6_failedCommand yX6_failedCommand) := ⟨lwT7 (List.mem_of_getElem? (i := 1) rfl), good_of_word rfl⟩
theorem tw1459 : lwG (.instanceMethod yX6_failedCommand) := ⟨lwT7 (List.mem_of_getElem? (i := 0) rfl), good_of_word rfl⟩
theorem tw1460 : lwG (.methodLink RL 144 yX6_failedCommand) := ⟨lwT6 (List.mem_of_getElem? (i := 239) rfl), good_of_word rfl⟩
theorem tw1461 : lwG (.code yX6_failedCommand cX6_failedCommand 1 (some .int)) := ⟨lwT7 (List.mem_of_getElem? (i := 2) rfl), good_of_word rfl⟩
theorem tw1462 : lwG (.selects RX7 yX7_failedCommand yX7_failedCommand) := ⟨lwT9 (List.mem_of_getElem? (i := 23) rfl), good_of_word rfl⟩
theorem tw1463 : lwG (.instanceMethod yX7_failedCommand) := ⟨lwT9 (List.mem_of_getElem? (i := 22) rfl), good_of_word rfl⟩
theorem tw1464 : lwG (.methodLink RL 329 yX7_failedCommand) := ⟨lwT9 (List.mem_of_getElem? (i := 21) rfl), good_of_word rfl⟩
theorem tw1465 : lwG (.code yX7_failedCommand cX7_failedCommand 1 (some .int)) := ⟨lwT9 (List.mem_of_getElem? (i := 24) rfl), good_of_word rfl⟩
theorem tw1466 : lwG (.static yL_undo) := ⟨lwT7 (List.mem_of_getElem? (i := 5) rfl), good_of_word rfl⟩
theorem tw1467 : lwG (.methodLink RL 330 yL_undo) := ⟨lwT7 (List.mem_of_getElem? (i := 4) rfl), good_of_word rfl⟩
theorem tw1468 : lwG (.codeWith yL_undo cL_undo 3 (some .int) [(0, 8, 11, 30)]) := ⟨lwT7 (List.mem_of_getElem? (i := 6) rfl), good_of_word rfl⟩
theorem tw1469 : lwG (.selects RX6 yX6_undo yX6_undo) := ⟨lwT7 (List.mem_of_getElem? (i := 9) rfl), good_of_word rfl⟩
theorem tw1470 : lwG (.instanceMethod yX6_undo) := ⟨lwT7 (List.mem_of_getElem? (i := 8) rfl), good_of_word rfl⟩
theorem tw1471 : lwG (.methodLink RL 147 yX6_undo) := ⟨lwT7 (List.mem_of_getElem? (i := 7) rfl), good_of_word rfl⟩
theorem tw1472 : lwG (.code yX6_undo cX6_undo 1 (some .int)) := ⟨lwT7 (List.mem_of_getElem? (i := 10) rfl), good_of_word rfl⟩
theorem tw1473 : lwG (.code yX0_pop cX0_pop 1 none) := ⟨lwT7 (List.mem_of_getElem? (i := 15) rfl), good_of_word rfl⟩
theorem tw1474 : lwG (.selects RX0 yX0_pop yX0_pop) := ⟨lwT7 (List.mem_of_getElem? (i := 14) rfl), good_of_word rfl⟩
theorem tw1475 : lwG (.instanceMethod yX0_pop) := ⟨lwT7 (List.mem_of_getElem? (i := 13) rfl), good_of_word rfl⟩
theorem tw1476 : lwG (.methodLink RX6 369 yX0_pop) := ⟨lwT7 (List.mem_of_getElem? (i := 12) rfl), good_of_word rfl⟩
theorem tw1477 : lwG (.fieldLink RX6 366 "SnowDispatcher$History" "count" "I") := ⟨lwT1 (List.mem_of_getElem? (i := 204) rfl), good_of_word rfl⟩
theorem tw1478 : lwG (.selects RX7 yX7_undo yX7_undo) := ⟨lwT9 (List.mem_of_getElem? (i := 27) rfl), good_of_word rfl⟩
theorem tw1479 : lwG (.instanceMethod yX7_undo) := ⟨lwT9 (List.mem_of_getElem? (i := 26) rfl), good_of_word rfl⟩
theorem tw1480 : lwG (.methodLink RL 332 yX7_undo) := ⟨lwT9 (List.mem_of_getElem? (i := 25) rfl), good_of_word rfl⟩
theorem tw1481 : lwG (.code yX7_undo cX7_undo 1 (some .int)) := ⟨lwT9 (List.mem_of_getElem? (i := 28) rfl), good_of_word rfl⟩
theorem tw1482 : lwG (.selects RX6 yX6_save yX6_save) := ⟨lwT2 (List.mem_of_getElem? (i := 158) rfl), good_of_word rfl⟩
theorem tw1483 : lwG (.instanceMethod yX6_save) := ⟨lwT2 (List.mem_of_getElem? (i := 157) rfl), good_of_word rfl⟩
theorem tw1484 : lwG (.methodLink RL 333 yX6_save) := ⟨lwT2 (List.mem_of_getElem? (i := 156) rfl), good_of_word rfl⟩
theorem tw1485 : lwG (.code yX6_save cX6_save 1 (some .int)) := ⟨lwT2 (List.mem_of_getElem? (i := 159) rfl), good_of_word rfl⟩
theorem tw1486 : lwG (.selects RX7 yX7_save yX7_save) := ⟨lwT9 (List.mem_of_getElem? (i := 31) rfl), good_of_word rfl⟩
theorem tw1487 : lwG (.instanceMethod yX7_save) := ⟨lwT9 (List.mem_of_getElem? (i := 30) rfl), good_of_word rfl⟩
theorem tw1488 : lwG (.methodLink RL 336 yX7_save) := ⟨lwT9 (List.mem_of_getElem? (i := 29) rfl), good_of_word rfl⟩
theorem tw1489 : lwG (.code yX7_save cX7_save 1 (some .int)) := ⟨lwT9 (List.mem_of_getElem? (i := 32) rfl), good_of_word rfl⟩
theorem tw1490 : lwG (.fieldLink RX7 264 "SnowDispatcherModel" "isSaved" "Z") := ⟨lwT7 (List.mem_of_getElem? (i := 42) rfl), good_of_word rfl⟩
theorem tw1491 : lwG (.static yL_restore) := ⟨lwT7 (List.mem_of_getElem? (i := 17) rfl), good_of_word rfl⟩
theorem tw1492 : lwG (.methodLink RL 337 yL_restore) := ⟨lwT7 (List.mem_of_getElem? (i := 16) rfl), good_of_word rfl⟩
theorem tw1493 : lwG (.codeWith yL_restore cL_restore 3 (some .int) [(0, 8, 11, 17)]) := ⟨lwT7 (List.mem_of_getElem? (i := 18) rfl), good_of_word rfl⟩
theorem tw1494 : lwG (.selects RX6 yX6_restore yX6_restore) := ⟨lwT7 (List.mem_of_getElem? (i := 21) rfl), good_of_word rfl⟩
theorem tw1495 : lwG (.instanceMethod yX6_restore) := ⟨lwT7 (List.mem_of_getElem? (i := 20) rfl), good_of_word rfl⟩
theorem tw1496 : lwG (.methodLink RL 150 yX6_restore) := ⟨lwT7 (List.mem_of_getElem? (i := 19) rfl), good_of_word rfl⟩
theorem tw1497 : lwG (.code yX6_restore cX6_restore 1 (some .int)) := ⟨lwT7 (List.mem_of_getElem? (i := 22) rfl), good_of_word rfl⟩
theorem tw1498 : lwG (.selects RX7 yX7_restore yX7_restore) := ⟨lwT9 (List.mem_of_getElem? (i := 35) rfl), good_of_word rfl⟩
theorem tw1499 : lwG (.instanceMethod yX7_restore) := ⟨lwT9 (List.mem_of_getElem? (i := 34) rfl), good_of_word rfl⟩
theorem tw1500 : lwG (.methodLink RL 339 yX7_restore) := ⟨lwT9 (List.mem_of_getElem? (i := 33) rfl), good_of_word rfl⟩
theorem tw1501 : lwG (.code yX7_restore cX7_restore 1 (some .int)) := ⟨lwT9 (List.mem_of_getElem? (i := 36) rfl), good_of_word rfl⟩
