/-! the tables' words by their places: by program (wip/p56/gen/words56.py) -/
theorem lw_sel {C : String} {y y2 : MethodName} {s : State} {args : Array Value} {n : Nat} (hc2 : y2.cls = y.cls) (hy : y.cls ≠ "java/lang/invoke/MethodHandle" ∧ y.cls ≠ "java/lang/invoke/VarHandle") (hy2 : y2.cls ≠ "java/lang/invoke/MethodHandle" ∧ y2.cls ≠ "java/lang/invoke/VarHandle")
    (hins : (Cond.instantiable C n).before args s = true) (hpriv : (Cond.privateMethod y).before args s = true) (hinst : (Cond.instanceMethod y).before args s = true) (hsel2 : (Cond.selects C y2 y2).before args s = true) (hinst2 : (Cond.instanceMethod y2).before args s = true) :
    (Cond.selects C y y).before args s = true := by
  obtain ⟨c, k, hc, hk, -, hniab, -, -⟩ := Cond.instantiable_spec hins
  obtain ⟨mk, methM, hnamed, hmethM, -, -⟩ := Cond.instanceMethod_spec hinst
  obtain ⟨c2, r2, m2, q1, q2, q3, q4, kP, hkP, hkPi⟩ := Cond.selects_spec hsel2
  obtain ⟨mk2, methM2, hnamed2, hmethM2, -, -⟩ := Cond.instanceMethod_spec hinst2
  have hf2 := State.methodFound?_of_named hnamed2 hy2
  have e3 : mk2 = m2 := Option.some.inj (hnamed2.symm.trans q3)
  rw [← e3] at hkP
  have e1 := findClass_of_methodNamed hnamed2
  have e2 := findClass_of_methodNamed hnamed
  rw [hc2] at e1
  have e : mk.cls = mk2.cls := Option.some.inj (e2.symm.trans e1)
  have hfound : s.methodFound? y.cls y.name y.desc = some mk := State.methodFound?_of_named hnamed hy
  have hsel : selectMethod {} s.vm c mk = .method mk := selectMethod_private hmethM (Cond.privateMethod_at hpriv mk methM hnamed hmethM)
  simp only [Cond.before, Cond.holds, Cond.value, hc, hfound, hnamed, hsel, hk]
  simp
  rw [e, hkP]
  simp [hkPi]
def lw_news : List Cond := [.selects RJ4 ⟨"java/lang/AbstractStringBuilder", "ensureCapacityInternal", "(I)V"⟩ yJ5_ensureCapacityInternal_d00df, .selects RJ4 ⟨"java/lang/AbstractStringBuilder", "newCapacity", "(I)I"⟩ yJ5_newCapacity_0f7a4, .selects RJ4 ⟨"java/lang/AbstractStringBuilder", "inflate", "()V"⟩ yJ5_inflate_da8c8, .selects RJ4 ⟨"java/lang/AbstractStringBuilder", "appendNull", "()Ljava/lang/AbstractStringBuilder;"⟩ yJ5_appendNull_278bc, .selects RJ4 ⟨"java/lang/AbstractStringBuilder", "inflateIfNeededFor", "(Ljava/lang/String;)V"⟩ yJ5_inflateIfNeededFor_a7421, .selects RJ4 ⟨"java/lang/AbstractStringBuilder", "putStringAt", "(ILjava/lang/String;)V"⟩ yJ5_putStringAt_47b60]
def lw_tbl2 : List Cond := lw_news ++ lw_tbl
theorem lw_hts2 {args : Array Value} {s : State} (hts : ∀ w ∈ lw_tbl, w.before args s = true) : ∀ w ∈ lw_tbl2, w.before args s = true := by
  intro w hw
  rcases List.mem_append.mp hw with hw | hw
  · simp only [lw_news, List.mem_cons, List.not_mem_nil, or_false] at hw
    rcases hw with rfl | rfl | rfl | rfl | rfl | rfl
    · exact lw_sel (C := RJ4) (y := yJ5_ensureCapacityInternal_d00df) (y2 := ⟨"java/lang/AbstractStringBuilder", "isLatin1", "()Z"⟩) (n := 4) rfl ⟨by decide +kernel, by decide +kernel⟩ ⟨by decide +kernel, by decide +kernel⟩ (hts _ (List.mem_append_right _ (List.mem_append_left _ (List.mem_of_getElem? (i := 126) rfl)))) (hts _ (List.mem_append_right _ (List.mem_append_left _ (List.mem_of_getElem? (i := 169) rfl)))) (hts _ (List.mem_append_right _ (List.mem_append_left _ (List.mem_of_getElem? (i := 170) rfl)))) (hts _ (List.mem_append_right _ (List.mem_append_left _ (List.mem_of_getElem? (i := 206) rfl)))) (hts _ (List.mem_append_right _ (List.mem_append_left _ (List.mem_of_getElem? (i := 204) rfl))))
    · exact lw_sel (C := RJ4) (y := yJ5_newCapacity_0f7a4) (y2 := ⟨"java/lang/AbstractStringBuilder", "isLatin1", "()Z"⟩) (n := 4) rfl ⟨by decide +kernel, by decide +kernel⟩ ⟨by decide +kernel, by decide +kernel⟩ (hts _ (List.mem_append_right _ (List.mem_append_left _ (List.mem_of_getElem? (i := 126) rfl)))) (hts _ (List.mem_append_right _ (List.mem_append_left _ (List.mem_of_getElem? (i := 173) rfl)))) (hts _ (List.mem_append_right _ (List.mem_append_left _ (List.mem_of_getElem? (i := 174) rfl)))) (hts _ (List.mem_append_right _ (List.mem_append_left _ (List.mem_of_getElem? (i := 206) rfl)))) (hts _ (List.mem_append_right _ (List.mem_append_left _ (List.mem_of_getElem? (i := 204) rfl))))
    · exact lw_sel (C := RJ4) (y := yJ5_inflate_da8c8) (y2 := ⟨"java/lang/AbstractStringBuilder", "isLatin1", "()Z"⟩) (n := 4) rfl ⟨by decide +kernel, by decide +kernel⟩ ⟨by decide +kernel, by decide +kernel⟩ (hts _ (List.mem_append_right _ (List.mem_append_left _ (List.mem_of_getElem? (i := 126) rfl)))) (hts _ (List.mem_append_right _ (List.mem_append_right _ (List.mem_append_left _ (List.mem_of_getElem? (i := 13) rfl))))) (hts _ (List.mem_append_right _ (List.mem_append_right _ (List.mem_append_left _ (List.mem_of_getElem? (i := 14) rfl))))) (hts _ (List.mem_append_right _ (List.mem_append_left _ (List.mem_of_getElem? (i := 206) rfl)))) (hts _ (List.mem_append_right _ (List.mem_append_left _ (List.mem_of_getElem? (i := 204) rfl))))
    · exact lw_sel (C := RJ4) (y := yJ5_appendNull_278bc) (y2 := ⟨"java/lang/AbstractStringBuilder", "isLatin1", "()Z"⟩) (n := 4) rfl ⟨by decide +kernel, by decide +kernel⟩ ⟨by decide +kernel, by decide +kernel⟩ (hts _ (List.mem_append_right _ (List.mem_append_left _ (List.mem_of_getElem? (i := 126) rfl)))) (hts _ (List.mem_append_right _ (List.mem_append_left _ (List.mem_of_getElem? (i := 165) rfl)))) (hts _ (List.mem_append_right _ (List.mem_append_left _ (List.mem_of_getElem? (i := 166) rfl)))) (hts _ (List.mem_append_right _ (List.mem_append_left _ (List.mem_of_getElem? (i := 206) rfl)))) (hts _ (List.mem_append_right _ (List.mem_append_left _ (List.mem_of_getElem? (i := 204) rfl))))
    · exact lw_sel (C := RJ4) (y := yJ5_inflateIfNeededFor_a7421) (y2 := ⟨"java/lang/AbstractStringBuilder", "isLatin1", "()Z"⟩) (n := 4) rfl ⟨by decide +kernel, by decide +kernel⟩ ⟨by decide +kernel, by decide +kernel⟩ (hts _ (List.mem_append_right _ (List.mem_append_left _ (List.mem_of_getElem? (i := 126) rfl)))) (hts _ (List.mem_append_right _ (List.mem_append_right _ (List.mem_append_left _ (List.mem_of_getElem? (i := 8) rfl))))) (hts _ (List.mem_append_right _ (List.mem_append_right _ (List.mem_append_left _ (List.mem_of_getElem? (i := 9) rfl))))) (hts _ (List.mem_append_right _ (List.mem_append_left _ (List.mem_of_getElem? (i := 206) rfl)))) (hts _ (List.mem_append_right _ (List.mem_append_left _ (List.mem_of_getElem? (i := 204) rfl))))
    · exact lw_sel (C := RJ4) (y := yJ5_putStringAt_47b60) (y2 := ⟨"java/lang/AbstractStringBuilder", "isLatin1", "()Z"⟩) (n := 4) rfl ⟨by decide +kernel, by decide +kernel⟩ ⟨by decide +kernel, by decide +kernel⟩ (hts _ (List.mem_append_right _ (List.mem_append_left _ (List.mem_of_getElem? (i := 126) rfl)))) (hts _ (List.mem_append_right _ (List.mem_append_right _ (List.mem_append_left _ (List.mem_of_getElem? (i := 4) rfl))))) (hts _ (List.mem_append_right _ (List.mem_append_right _ (List.mem_append_left _ (List.mem_of_getElem? (i := 5) rfl))))) (hts _ (List.mem_append_right _ (List.mem_append_left _ (List.mem_of_getElem? (i := 206) rfl)))) (hts _ (List.mem_append_right _ (List.mem_append_left _ (List.mem_of_getElem? (i := 204) rfl))))
  · exact hts w hw
abbrev lwG (w : Cond) : Prop := w ∈ lw_tbl2 ∧ ((w.onTables && w.keeps) = true ∨ ∃ ty, w = .arrayClass ty)
theorem goodIn_nil {big : List Cond} : GoodIn big [] := fun _ h => absurd h List.not_mem_nil
theorem goodIn_c1 {w : Cond} {a : List Cond} (h : lwG w) (ha : GoodIn lw_tbl2 a) : GoodIn lw_tbl2 (w :: a) := fun v hv => (List.mem_cons.mp hv).elim (fun e => e ▸ h) (ha v)
theorem lwT0 {w : Cond} (h : w ∈ k2_sels lw_privs) : w ∈ lw_tbl2 := List.mem_append_right _ (List.mem_append_left _ h)
theorem lwT1 {w : Cond} (h : w ∈ tables_1_1) : w ∈ lw_tbl2 := List.mem_append_right _ (List.mem_append_right _ (List.mem_append_left _ h))
theorem lwT2 {w : Cond} (h : w ∈ tables_1_2) : w ∈ lw_tbl2 := List.mem_append_right _ (List.mem_append_right _ (List.mem_append_right _ (List.mem_append_left _ h)))
theorem lwT3 {w : Cond} (h : w ∈ tables_1_3) : w ∈ lw_tbl2 := List.mem_append_right _ (List.mem_append_right _ (List.mem_append_right _ (List.mem_append_right _ (List.mem_append_left _ h))))
theorem lwT4 {w : Cond} (h : w ∈ tables_1_4) : w ∈ lw_tbl2 := List.mem_append_right _ (List.mem_append_right _ (List.mem_append_right _ (List.mem_append_right _ (List.mem_append_right _ (List.mem_append_left _ h)))))
theorem lwT5 {w : Cond} (h : w ∈ tables_1_5) : w ∈ lw_tbl2 := List.mem_append_right _ (List.mem_append_right _ (List.mem_append_right _ (List.mem_append_right _ (List.mem_append_right _ (List.mem_append_right _ (List.mem_append_left _ h))))))
theorem lwT6 {w : Cond} (h : w ∈ tables_1_6) : w ∈ lw_tbl2 := List.mem_append_right _ (List.mem_append_right _ (List.mem_append_right _ (List.mem_append_right _ (List.mem_append_right _ (List.mem_append_right _ (List.mem_append_right _ (h)))))))
theorem tw0 : lwG (.initialized RX6) := ⟨lwT1 (List.mem_of_getElem? (i := 1) rfl), good_of_word rfl⟩
theorem tw1 : lwG (.selects RX6 yX6_addStreet yX6_addStreet) := ⟨lwT5 (List.mem_of_getElem? (i := 69) rfl), good_of_word rfl⟩
theorem tw2 : lwG (.instanceMethod yX6_addStreet) := ⟨lwT5 (List.mem_of_getElem? (i := 68) rfl), good_of_word rfl⟩
theorem tw3 : lwG (.methodLink RL 9 yX6_addStreet) := ⟨lwT5 (List.mem_of_getElem? (i := 67) rfl), good_of_word rfl⟩
theorem tw4 : lwG (.code yX6_addStreet cX6_addStreet 6 (some .int)) := ⟨lwT5 (List.mem_of_getElem? (i := 70) rfl), good_of_word rfl⟩
theorem tw5 : lwG (.code yX5_copyFrom cX5_copyFrom 2 none) := ⟨lwT3 (List.mem_of_getElem? (i := 2) rfl), good_of_word rfl⟩
theorem tw6 : lwG (.initialized RX5) := ⟨lwT1 (List.mem_of_getElem? (i := 3) rfl), good_of_word rfl⟩
theorem tw7 : lwG (.selects RX5 yX5_copyFrom yX5_copyFrom) := ⟨lwT3 (List.mem_of_getElem? (i := 1) rfl), good_of_word rfl⟩
theorem tw8 : lwG (.instanceMethod yX5_copyFrom) := ⟨lwT3 (List.mem_of_getElem? (i := 0) rfl), good_of_word rfl⟩
theorem tw9 : lwG (.methodLink RX0 24 yX5_copyFrom) := ⟨lwT3 (List.mem_of_getElem? (i := 33) rfl), good_of_word rfl⟩
theorem tw10 : lwG (.fieldLink RX0 13 "SnowDispatcher$History" "ring" "[LSnowDispatcher$Town;") := ⟨lwT4 (List.mem_of_getElem? (i := 236) rfl), good_of_word rfl⟩
theorem tw11 : lwG (.fieldLink RX0 28 "SnowDispatcher$History" "free" "I") := ⟨lwT4 (List.mem_of_getElem? (i := 237) rfl), good_of_word rfl⟩
theorem tw12 : lwG (.code yX0_freePlace cX0_freePlace 1 (some (.object "SnowDispatcher$Town"))) := ⟨lwT3 (List.mem_of_getElem? (i := 32) rfl), good_of_word rfl⟩
theorem tw13 : lwG (.selects RX0 yX0_freePlace yX0_freePlace) := ⟨lwT0 (List.mem_of_getElem? (i := 1) rfl), good_of_word rfl⟩
theorem tw14 : lwG (.instanceMethod yX0_freePlace) := ⟨lwT3 (List.mem_of_getElem? (i := 30) rfl), good_of_word rfl⟩
theorem tw15 : lwG (.methodLink RX0 20 yX0_freePlace) := ⟨lwT3 (List.mem_of_getElem? (i := 28) rfl), good_of_word rfl⟩
theorem tw16 : lwG (.code yX0_write cX0_write 3 none) := ⟨lwT3 (List.mem_of_getElem? (i := 27) rfl), good_of_word rfl⟩
theorem tw17 : lwG (.initialized RX0) := ⟨lwT1 (List.mem_of_getElem? (i := 6) rfl), good_of_word rfl⟩
theorem tw18 : lwG (.selects RX0 yX0_write yX0_write) := ⟨lwT3 (List.mem_of_getElem? (i := 26) rfl), good_of_word rfl⟩
theorem tw19 : lwG (.instanceMethod yX0_write) := ⟨lwT3 (List.mem_of_getElem? (i := 25) rfl), good_of_word rfl⟩
theorem tw20 : lwG (.methodLink RX6 63 yX0_write) := ⟨lwT3 (List.mem_of_getElem? (i := 24) rfl), good_of_word rfl⟩
theorem tw21 : lwG (.fieldLink RX6 21 "SnowDispatcher" "town" "LSnowDispatcher$Town;") := ⟨lwT5 (List.mem_of_getElem? (i := 34) rfl), good_of_word rfl⟩
theorem tw22 : lwG (.fieldLink RX6 34 "SnowDispatcher" "history" "LSnowDispatcher$History;") := ⟨lwT5 (List.mem_of_getElem? (i := 37) rfl), good_of_word rfl⟩
theorem tw23 : lwG (.initialized "java/lang/IllegalStateException") := ⟨lwT1 (List.mem_of_getElem? (i := 20) rfl), good_of_word rfl⟩
theorem tw24 : lwG (.classLink RX6 83 "java/lang/IllegalStateException") := ⟨lwT3 (List.mem_of_getElem? (i := 44) rfl), good_of_word rfl⟩
theorem tw25 : lwG (.initialized "java/lang/IllegalArgumentException") := ⟨lwT1 (List.mem_of_getElem? (i := 19) rfl), good_of_word rfl⟩
theorem tw26 : lwG (.classLink RX6 78 "java/lang/IllegalArgumentException") := ⟨lwT3 (List.mem_of_getElem? (i := 80) rfl), good_of_word rfl⟩
theorem tw27 : lwG (.initialized "java/lang/IndexOutOfBoundsException") := ⟨lwT1 (List.mem_of_getElem? (i := 15) rfl), good_of_word rfl⟩
theorem tw28 : lwG (.classLink RX6 71 "java/lang/IndexOutOfBoundsException") := ⟨lwT1 (List.mem_of_getElem? (i := 38) rfl), good_of_word rfl⟩
theorem tw29 : lwG (.fieldLink RX4 25 "SnowDispatcher$Streets" "snow" "[I") := ⟨lwT4 (List.mem_of_getElem? (i := 120) rfl), good_of_word rfl⟩
theorem tw30 : lwG (.fieldLink RX4 22 "SnowDispatcher$Streets" "size" "[I") := ⟨lwT4 (List.mem_of_getElem? (i := 116) rfl), good_of_word rfl⟩
theorem tw31 : lwG (.fieldLink RX4 18 "SnowDispatcher$Streets" "kind" "[C") := ⟨lwT4 (List.mem_of_getElem? (i := 114) rfl), good_of_word rfl⟩
theorem tw32 : lwG (.fieldLink RX4 15 "SnowDispatcher$Streets" "higher" "[I") := ⟨lwT4 (List.mem_of_getElem? (i := 110) rfl), good_of_word rfl⟩
theorem tw33 : lwG (.initialized "java/lang/System") := ⟨lwT1 (List.mem_of_getElem? (i := 17) rfl), good_of_word rfl⟩
theorem tw34 : lwG (.static arraycopyName) := ⟨lwT1 (List.mem_of_getElem? (i := 201) rfl), good_of_word rfl⟩
theorem tw35 : lwG (.native arraycopyName) := ⟨lwT1 (List.mem_of_getElem? (i := 202) rfl), good_of_word rfl⟩
theorem tw36 : lwG (.methodLink RX4 41 arraycopyName) := ⟨lwT3 (List.mem_of_getElem? (i := 7) rfl), good_of_word rfl⟩
theorem tw37 : lwG (.fieldLink RX4 9 "SnowDispatcher$Streets" "lower" "[I") := ⟨lwT4 (List.mem_of_getElem? (i := 106) rfl), good_of_word rfl⟩
theorem tw38 : lwG (.code yX4_copyFrom cX4_copyFrom 2 none) := ⟨lwT3 (List.mem_of_getElem? (i := 6) rfl), good_of_word rfl⟩
theorem tw39 : lwG (.initialized RX4) := ⟨lwT1 (List.mem_of_getElem? (i := 4) rfl), good_of_word rfl⟩
theorem tw40 : lwG (.selects RX4 yX4_copyFrom yX4_copyFrom) := ⟨lwT3 (List.mem_of_getElem? (i := 5) rfl), good_of_word rfl⟩
theorem tw41 : lwG (.instanceMethod yX4_copyFrom) := ⟨lwT3 (List.mem_of_getElem? (i := 4) rfl), good_of_word rfl⟩
theorem tw42 : lwG (.methodLink RX5 29 yX4_copyFrom) := ⟨lwT3 (List.mem_of_getElem? (i := 3) rfl), good_of_word rfl⟩
theorem tw43 : lwG (.fieldLink RX5 58 "SnowDispatcher$Town" "complained" "I") := ⟨lwT4 (List.mem_of_getElem? (i := 203) rfl), good_of_word rfl⟩
theorem tw44 : lwG (.fieldLink RX5 55 "SnowDispatcher$Town" "failed" "I") := ⟨lwT4 (List.mem_of_getElem? (i := 201) rfl), good_of_word rfl⟩
theorem tw45 : lwG (.fieldLink RX5 52 "SnowDispatcher$Town" "ploughed" "I") := ⟨lwT4 (List.mem_of_getElem? (i := 199) rfl), good_of_word rfl⟩
theorem tw46 : lwG (.fieldLink RX5 49 "SnowDispatcher$Town" "cleared" "I") := ⟨lwT4 (List.mem_of_getElem? (i := 197) rfl), good_of_word rfl⟩
theorem tw47 : lwG (.fieldLink RX5 46 "SnowDispatcher$Town" "force" "I") := ⟨lwT4 (List.mem_of_getElem? (i := 195) rfl), good_of_word rfl⟩
theorem tw48 : lwG (.fieldLink RX5 43 "SnowDispatcher$Town" "rate" "I") := ⟨lwT4 (List.mem_of_getElem? (i := 193) rfl), good_of_word rfl⟩
theorem tw49 : lwG (.fieldLink RX5 40 "SnowDispatcher$Town" "store" "I") := ⟨lwT4 (List.mem_of_getElem? (i := 191) rfl), good_of_word rfl⟩
theorem tw50 : lwG (.fieldLink RX5 36 "SnowDispatcher$Town" "time" "I") := ⟨lwT4 (List.mem_of_getElem? (i := 189) rfl), good_of_word rfl⟩
theorem tw51 : lwG (.fieldLink RX5 25 "SnowDispatcher$Town" "ploughs" "LSnowDispatcher$Ploughs;") := ⟨lwT4 (List.mem_of_getElem? (i := 187) rfl), good_of_word rfl⟩
theorem tw52 : lwG (.fieldLink RX5 18 "SnowDispatcher$Town" "streets" "LSnowDispatcher$Streets;") := ⟨lwT4 (List.mem_of_getElem? (i := 185) rfl), good_of_word rfl⟩
theorem tw53 : lwG (.code Lib.Math.min.name Lib.Math.min.code 2 (some .int)) := ⟨lwT1 (List.mem_of_getElem? (i := 199) rfl), good_of_word rfl⟩
theorem tw54 : lwG (.initialized "java/lang/Math") := ⟨lwT1 (List.mem_of_getElem? (i := 18) rfl), good_of_word rfl⟩
theorem tw55 : lwG (.static Lib.Math.min.name) := ⟨lwT1 (List.mem_of_getElem? (i := 198) rfl), good_of_word rfl⟩
theorem tw56 : lwG (.methodLink RX5 65 Lib.Math.min.name) := ⟨lwT3 (List.mem_of_getElem? (i := 176) rfl), good_of_word rfl⟩
theorem tw57 : lwG (.code yX5_putStreet cX5_putStreet 7 (some .int)) := ⟨lwT5 (List.mem_of_getElem? (i := 74) rfl), good_of_word rfl⟩
theorem tw58 : lwG (.selects RX5 yX5_putStreet yX5_putStreet) := ⟨lwT5 (List.mem_of_getElem? (i := 73) rfl), good_of_word rfl⟩
theorem tw59 : lwG (.instanceMethod yX5_putStreet) := ⟨lwT5 (List.mem_of_getElem? (i := 72) rfl), good_of_word rfl⟩
theorem tw60 : lwG (.methodLink RX6 67 yX5_putStreet) := ⟨lwT5 (List.mem_of_getElem? (i := 71) rfl), good_of_word rfl⟩
theorem tw61 : lwG (.fieldLink RX2 27 "SnowDispatcher$Ploughs" "count" "I") := ⟨lwT4 (List.mem_of_getElem? (i := 168) rfl), good_of_word rfl⟩
theorem tw62 : lwG (.fieldLink RX2 24 "SnowDispatcher$Ploughs" "orders" "[I") := ⟨lwT4 (List.mem_of_getElem? (i := 167) rfl), good_of_word rfl⟩
theorem tw63 : lwG (.fieldLink RX2 21 "SnowDispatcher$Ploughs" "waiting" "[I") := ⟨lwT4 (List.mem_of_getElem? (i := 165) rfl), good_of_word rfl⟩
theorem tw64 : lwG (.fieldLink RX2 18 "SnowDispatcher$Ploughs" "minutesLeft" "[I") := ⟨lwT4 (List.mem_of_getElem? (i := 163) rfl), good_of_word rfl⟩
theorem tw65 : lwG (.fieldLink RX2 15 "SnowDispatcher$Ploughs" "target" "[I") := ⟨lwT4 (List.mem_of_getElem? (i := 161) rfl), good_of_word rfl⟩
theorem tw66 : lwG (.methodLink RX2 31 arraycopyName) := ⟨lwT3 (List.mem_of_getElem? (i := 12) rfl), good_of_word rfl⟩
theorem tw67 : lwG (.fieldLink RX2 9 "SnowDispatcher$Ploughs" "place" "[I") := ⟨lwT4 (List.mem_of_getElem? (i := 158) rfl), good_of_word rfl⟩
theorem tw68 : lwG (.code yX2_copyFrom cX2_copyFrom 2 none) := ⟨lwT3 (List.mem_of_getElem? (i := 11) rfl), good_of_word rfl⟩
theorem tw69 : lwG (.initialized RX2) := ⟨lwT1 (List.mem_of_getElem? (i := 5) rfl), good_of_word rfl⟩
theorem tw70 : lwG (.selects RX2 yX2_copyFrom yX2_copyFrom) := ⟨lwT3 (List.mem_of_getElem? (i := 10) rfl), good_of_word rfl⟩
theorem tw71 : lwG (.instanceMethod yX2_copyFrom) := ⟨lwT3 (List.mem_of_getElem? (i := 9) rfl), good_of_word rfl⟩
theorem tw72 : lwG (.methodLink RX5 33 yX2_copyFrom) := ⟨lwT3 (List.mem_of_getElem? (i := 8) rfl), good_of_word rfl⟩
theorem tw73 : lwG (.fieldLink RX4 37 "SnowDispatcher$Streets" "count" "I") := ⟨lwT4 (List.mem_of_getElem? (i := 129) rfl), good_of_word rfl⟩
theorem tw74 : lwG (.fieldLink RX4 34 "SnowDispatcher$Streets" "clearings" "[I") := ⟨lwT4 (List.mem_of_getElem? (i := 127) rfl), good_of_word rfl⟩
theorem tw75 : lwG (.fieldLink RX4 31 "SnowDispatcher$Streets" "complained" "[I") := ⟨lwT4 (List.mem_of_getElem? (i := 125) rfl), good_of_word rfl⟩
theorem tw76 : lwG (.fieldLink RX4 28 "SnowDispatcher$Streets" "saltEnd" "[I") := ⟨lwT4 (List.mem_of_getElem? (i := 123) rfl), good_of_word rfl⟩
theorem tw77 : lwG (.methodLink RX0 35 Lib.Math.min.name) := ⟨lwT3 (List.mem_of_getElem? (i := 64) rfl), good_of_word rfl⟩
theorem tw78 : lwG (.fieldLink RX0 32 "SnowDispatcher$History" "count" "I") := ⟨lwT4 (List.mem_of_getElem? (i := 238) rfl), good_of_word rfl⟩
theorem tw79 : lwG (.code yX0_push cX0_push 1 none) := ⟨lwT3 (List.mem_of_getElem? (i := 63) rfl), good_of_word rfl⟩
theorem tw80 : lwG (.selects RX0 yX0_push yX0_push) := ⟨lwT3 (List.mem_of_getElem? (i := 62) rfl), good_of_word rfl⟩
theorem tw81 : lwG (.instanceMethod yX0_push) := ⟨lwT3 (List.mem_of_getElem? (i := 61) rfl), good_of_word rfl⟩
theorem tw82 : lwG (.methodLink RX6 88 yX0_push) := ⟨lwT3 (List.mem_of_getElem? (i := 60) rfl), good_of_word rfl⟩
theorem tw83 : lwG (.code yX4_put cX4_put 6 (some .int)) := ⟨lwT5 (List.mem_of_getElem? (i := 84) rfl), good_of_word rfl⟩
theorem tw84 : lwG (.selects RX4 yX4_put yX4_put) := ⟨lwT5 (List.mem_of_getElem? (i := 83) rfl), good_of_word rfl⟩
theorem tw85 : lwG (.instanceMethod yX4_put) := ⟨lwT5 (List.mem_of_getElem? (i := 82) rfl), good_of_word rfl⟩
theorem tw86 : lwG (.methodLink RX5 78 yX4_put) := ⟨lwT5 (List.mem_of_getElem? (i := 81) rfl), good_of_word rfl⟩
theorem tw87 : lwG (.code yX4_areConnected cX4_areConnected 4 (some .boolean)) := ⟨lwT5 (List.mem_of_getElem? (i := 80) rfl), good_of_word rfl⟩
theorem tw88 : lwG (.selects RX4 yX4_areConnected yX4_areConnected) := ⟨lwT5 (List.mem_of_getElem? (i := 79) rfl), good_of_word rfl⟩
theorem tw89 : lwG (.instanceMethod yX4_areConnected) := ⟨lwT5 (List.mem_of_getElem? (i := 78) rfl), good_of_word rfl⟩
theorem tw90 : lwG (.methodLink RX5 74 yX4_areConnected) := ⟨lwT5 (List.mem_of_getElem? (i := 77) rfl), good_of_word rfl⟩
theorem tw91 : lwG (.code yX6_isJunction cX6_isJunction 1 (some .boolean)) := ⟨lwT3 (List.mem_of_getElem? (i := 166) rfl), good_of_word rfl⟩
theorem tw92 : lwG (.static yX6_isJunction) := ⟨lwT3 (List.mem_of_getElem? (i := 165) rfl), good_of_word rfl⟩
theorem tw93 : lwG (.code Lib.Math.max.name Lib.Math.max.code 2 (some .int)) := ⟨lwT1 (List.mem_of_getElem? (i := 181) rfl), good_of_word rfl⟩
theorem tw94 : lwG (.static Lib.Math.max.name) := ⟨lwT1 (List.mem_of_getElem? (i := 180) rfl), good_of_word rfl⟩
theorem tw95 : lwG (.methodLink RX5 71 Lib.Math.max.name) := ⟨lwT5 (List.mem_of_getElem? (i := 76) rfl), good_of_word rfl⟩
theorem tw96 : lwG (.classLink RL 15 "java/lang/IndexOutOfBoundsException") := ⟨lwT3 (List.mem_of_getElem? (i := 16) rfl), good_of_word rfl⟩
theorem tw97 : lwG (.constant RL 17 (-900001)) := ⟨lwT3 (List.mem_of_getElem? (i := 65) rfl), good_of_word rfl⟩
theorem tw98 : lwG (.classLink RL 18 "java/lang/IllegalArgumentException") := ⟨lwT3 (List.mem_of_getElem? (i := 70) rfl), good_of_word rfl⟩
theorem tw99 : lwG (.constant RL 20 (-900002)) := ⟨lwT3 (List.mem_of_getElem? (i := 66) rfl), good_of_word rfl⟩
theorem tw100 : lwG (.classLink RL 21 "java/lang/IllegalStateException") := ⟨lwT3 (List.mem_of_getElem? (i := 19) rfl), good_of_word rfl⟩
theorem tw101 : lwG (.constant RL 23 (-900003)) := ⟨lwT5 (List.mem_of_getElem? (i := 88) rfl), good_of_word rfl⟩
theorem tw102 : lwG (.selects RX6 yX6_addPlough yX6_addPlough) := ⟨lwT5 (List.mem_of_getElem? (i := 94) rfl), good_of_word rfl⟩
theorem tw103 : lwG (.instanceMethod yX6_addPlough) := ⟨lwT5 (List.mem_of_getElem? (i := 93) rfl), good_of_word rfl⟩
theorem tw104 : lwG (.methodLink RL 24 yX6_addPlough) := ⟨lwT5 (List.mem_of_getElem? (i := 92) rfl), good_of_word rfl⟩
theorem tw105 : lwG (.code yX6_addPlough cX6_addPlough 3 (some .int)) := ⟨lwT5 (List.mem_of_getElem? (i := 95) rfl), good_of_word rfl⟩
theorem tw106 : lwG (.selects RX2 yX2_put yX2_put) := ⟨lwT5 (List.mem_of_getElem? (i := 102) rfl), good_of_word rfl⟩
theorem tw107 : lwG (.instanceMethod yX2_put) := ⟨lwT5 (List.mem_of_getElem? (i := 101) rfl), good_of_word rfl⟩
theorem tw108 : lwG (.methodLink RX5 82 yX2_put) := ⟨lwT5 (List.mem_of_getElem? (i := 100) rfl), good_of_word rfl⟩
theorem tw109 : lwG (.code yX5_putPlough cX5_putPlough 2 (some .int)) := ⟨lwT5 (List.mem_of_getElem? (i := 99) rfl), good_of_word rfl⟩
theorem tw110 : lwG (.selects RX5 yX5_putPlough yX5_putPlough) := ⟨lwT5 (List.mem_of_getElem? (i := 98) rfl), good_of_word rfl⟩
theorem tw111 : lwG (.instanceMethod yX5_putPlough) := ⟨lwT5 (List.mem_of_getElem? (i := 97) rfl), good_of_word rfl⟩
theorem tw112 : lwG (.methodLink RX6 91 yX5_putPlough) := ⟨lwT5 (List.mem_of_getElem? (i := 96) rfl), good_of_word rfl⟩
theorem tw113 : lwG (.code yX2_put cX2_put 3 (some .int)) := ⟨lwT5 (List.mem_of_getElem? (i := 103) rfl), good_of_word rfl⟩
theorem tw114 : lwG (.selects RX6 yX6_order yX6_order) := ⟨lwT3 (List.mem_of_getElem? (i := 22) rfl), good_of_word rfl⟩
theorem tw115 : lwG (.instanceMethod yX6_order) := ⟨lwT3 (List.mem_of_getElem? (i := 21) rfl), good_of_word rfl⟩
theorem tw116 : lwG (.methodLink RL 28 yX6_order) := ⟨lwT3 (List.mem_of_getElem? (i := 20) rfl), good_of_word rfl⟩
theorem tw117 : lwG (.code yX6_order cX6_order 4 (some .int)) := ⟨lwT3 (List.mem_of_getElem? (i := 23) rfl), good_of_word rfl⟩
theorem tw118 : lwG (.instanceMethod yX2_append) := ⟨lwT3 (List.mem_of_getElem? (i := 40) rfl), good_of_word rfl⟩
theorem tw119 : lwG (.methodLink RX5 88 yX2_append) := ⟨lwT3 (List.mem_of_getElem? (i := 39) rfl), good_of_word rfl⟩
theorem tw120 : lwG (.code yX4_has cX4_has 2 (some .boolean)) := ⟨lwT1 (List.mem_of_getElem? (i := 37) rfl), good_of_word rfl⟩
theorem tw121 : lwG (.selects RX4 yX4_has yX4_has) := ⟨lwT1 (List.mem_of_getElem? (i := 36) rfl), good_of_word rfl⟩
theorem tw122 : lwG (.instanceMethod yX4_has) := ⟨lwT1 (List.mem_of_getElem? (i := 35) rfl), good_of_word rfl⟩
theorem tw123 : lwG (.methodLink RX5 85 yX4_has) := ⟨lwT3 (List.mem_of_getElem? (i := 38) rfl), good_of_word rfl⟩
theorem tw124 : lwG (.code yX5_appendOrder cX5_appendOrder 3 (some .int)) := ⟨lwT3 (List.mem_of_getElem? (i := 37) rfl), good_of_word rfl⟩
theorem tw125 : lwG (.selects RX5 yX5_appendOrder yX5_appendOrder) := ⟨lwT3 (List.mem_of_getElem? (i := 36) rfl), good_of_word rfl⟩
theorem tw126 : lwG (.instanceMethod yX5_appendOrder) := ⟨lwT3 (List.mem_of_getElem? (i := 35) rfl), good_of_word rfl⟩
theorem tw127 : lwG (.methodLink RX6 97 yX5_appendOrder) := ⟨lwT3 (List.mem_of_getElem? (i := 34) rfl), good_of_word rfl⟩
theorem tw128 : lwG (.code yX2_has cX2_has 2 (some .boolean)) := ⟨lwT2 (List.mem_of_getElem? (i := 228) rfl), good_of_word rfl⟩
theorem tw129 : lwG (.selects RX2 yX2_has yX2_has) := ⟨lwT2 (List.mem_of_getElem? (i := 227) rfl), good_of_word rfl⟩
theorem tw130 : lwG (.instanceMethod yX2_has) := ⟨lwT2 (List.mem_of_getElem? (i := 226) rfl), good_of_word rfl⟩
theorem tw131 : lwG (.methodLink RX2 37 yX2_has) := ⟨lwT2 (List.mem_of_getElem? (i := 234) rfl), good_of_word rfl⟩
theorem tw132 : lwG (.code yX2_append cX2_append 4 (some .int)) := ⟨lwT3 (List.mem_of_getElem? (i := 42) rfl), good_of_word rfl⟩
theorem tw133 : lwG (.selects RX2 yX2_append yX2_append) := ⟨lwT3 (List.mem_of_getElem? (i := 41) rfl), good_of_word rfl⟩
theorem tw134 : lwG (.selects RX6 yX6_cancelOrder yX6_cancelOrder) := ⟨lwT5 (List.mem_of_getElem? (i := 132) rfl), good_of_word rfl⟩
theorem tw135 : lwG (.instanceMethod yX6_cancelOrder) := ⟨lwT5 (List.mem_of_getElem? (i := 131) rfl), good_of_word rfl⟩
theorem tw136 : lwG (.methodLink RL 32 yX6_cancelOrder) := ⟨lwT5 (List.mem_of_getElem? (i := 130) rfl), good_of_word rfl⟩
theorem tw137 : lwG (.code yX6_cancelOrder cX6_cancelOrder 3 (some .int)) := ⟨lwT5 (List.mem_of_getElem? (i := 133) rfl), good_of_word rfl⟩
theorem tw138 : lwG (.initialized "java/util/NoSuchElementException") := ⟨lwT1 (List.mem_of_getElem? (i := 22) rfl), good_of_word rfl⟩
theorem tw139 : lwG (.classLink RX6 110 "java/util/NoSuchElementException") := ⟨lwT3 (List.mem_of_getElem? (i := 237) rfl), good_of_word rfl⟩
theorem tw140 : lwG (.code yX2_removeLast cX2_removeLast 3 (some .int)) := ⟨lwT5 (List.mem_of_getElem? (i := 141) rfl), good_of_word rfl⟩
theorem tw141 : lwG (.selects RX2 yX2_removeLast yX2_removeLast) := ⟨lwT5 (List.mem_of_getElem? (i := 140) rfl), good_of_word rfl⟩
theorem tw142 : lwG (.instanceMethod yX2_removeLast) := ⟨lwT5 (List.mem_of_getElem? (i := 139) rfl), good_of_word rfl⟩
theorem tw143 : lwG (.methodLink RX5 91 yX2_removeLast) := ⟨lwT5 (List.mem_of_getElem? (i := 138) rfl), good_of_word rfl⟩
theorem tw144 : lwG (.code yX5_removeOrder cX5_removeOrder 2 (some .int)) := ⟨lwT5 (List.mem_of_getElem? (i := 137) rfl), good_of_word rfl⟩
theorem tw145 : lwG (.selects RX5 yX5_removeOrder yX5_removeOrder) := ⟨lwT5 (List.mem_of_getElem? (i := 136) rfl), good_of_word rfl⟩
theorem tw146 : lwG (.instanceMethod yX5_removeOrder) := ⟨lwT5 (List.mem_of_getElem? (i := 135) rfl), good_of_word rfl⟩
theorem tw147 : lwG (.methodLink RX6 105 yX5_removeOrder) := ⟨lwT5 (List.mem_of_getElem? (i := 134) rfl), good_of_word rfl⟩
theorem tw148 : lwG (.code yX2_waitingAt cX2_waitingAt 3 (some .int)) := ⟨lwT2 (List.mem_of_getElem? (i := 233) rfl), good_of_word rfl⟩
theorem tw149 : lwG (.selects RX2 yX2_waitingAt yX2_waitingAt) := ⟨lwT2 (List.mem_of_getElem? (i := 232) rfl), good_of_word rfl⟩
theorem tw150 : lwG (.instanceMethod yX2_waitingAt) := ⟨lwT2 (List.mem_of_getElem? (i := 231) rfl), good_of_word rfl⟩
theorem tw151 : lwG (.methodLink RX2 41 yX2_waitingAt) := ⟨lwT3 (List.mem_of_getElem? (i := 147) rfl), good_of_word rfl⟩
theorem tw152 : lwG (.classLink RL 35 "java/util/NoSuchElementException") := ⟨lwT3 (List.mem_of_getElem? (i := 219) rfl), good_of_word rfl⟩
theorem tw153 : lwG (.selects RX6 yX6_salt yX6_salt) := ⟨lwT5 (List.mem_of_getElem? (i := 114) rfl), good_of_word rfl⟩
theorem tw154 : lwG (.instanceMethod yX6_salt) := ⟨lwT5 (List.mem_of_getElem? (i := 113) rfl), good_of_word rfl⟩
theorem tw155 : lwG (.methodLink RL 37 yX6_salt) := ⟨lwT5 (List.mem_of_getElem? (i := 112) rfl), good_of_word rfl⟩
theorem tw156 : lwG (.code yX6_salt cX6_salt 3 (some .int)) := ⟨lwT5 (List.mem_of_getElem? (i := 115) rfl), good_of_word rfl⟩
theorem tw157 : lwG (.initialized "java/lang/UnsupportedOperationException") := ⟨lwT1 (List.mem_of_getElem? (i := 21) rfl), good_of_word rfl⟩
theorem tw158 : lwG (.classLink RX6 120 "java/lang/UnsupportedOperationException") := ⟨lwT3 (List.mem_of_getElem? (i := 83) rfl), good_of_word rfl⟩
theorem tw159 : lwG (.fieldLink RX5 101 "SnowDispatcher$Streets" "saltEnd" "[I") := ⟨lwT4 (List.mem_of_getElem? (i := 124) rfl), good_of_word rfl⟩
theorem tw160 : lwG (.fieldLink RX5 97 "SnowDispatcher$Streets" "size" "[I") := ⟨lwT4 (List.mem_of_getElem? (i := 118) rfl), good_of_word rfl⟩
theorem tw161 : lwG (.code yX5_spreadSalt cX5_spreadSalt 2 (some .int)) := ⟨lwT5 (List.mem_of_getElem? (i := 119) rfl), good_of_word rfl⟩
theorem tw162 : lwG (.selects RX5 yX5_spreadSalt yX5_spreadSalt) := ⟨lwT5 (List.mem_of_getElem? (i := 118) rfl), good_of_word rfl⟩
theorem tw163 : lwG (.instanceMethod yX5_spreadSalt) := ⟨lwT5 (List.mem_of_getElem? (i := 117) rfl), good_of_word rfl⟩
theorem tw164 : lwG (.methodLink RX6 115 yX5_spreadSalt) := ⟨lwT5 (List.mem_of_getElem? (i := 116) rfl), good_of_word rfl⟩
theorem tw165 : lwG (.methodLink RX4 47 yX4_has) := ⟨lwT2 (List.mem_of_getElem? (i := 219) rfl), good_of_word rfl⟩
theorem tw166 : lwG (.code yX4_saltLeft cX4_saltLeft 3 (some .int)) := ⟨lwT2 (List.mem_of_getElem? (i := 218) rfl), good_of_word rfl⟩
theorem tw167 : lwG (.selects RX4 yX4_saltLeft yX4_saltLeft) := ⟨lwT2 (List.mem_of_getElem? (i := 217) rfl), good_of_word rfl⟩
theorem tw168 : lwG (.instanceMethod yX4_saltLeft) := ⟨lwT2 (List.mem_of_getElem? (i := 216) rfl), good_of_word rfl⟩
theorem tw169 : lwG (.methodLink RX5 94 yX4_saltLeft) := ⟨lwT5 (List.mem_of_getElem? (i := 120) rfl), good_of_word rfl⟩
theorem tw170 : lwG (.classLink RL 40 "java/lang/UnsupportedOperationException") := ⟨lwT3 (List.mem_of_getElem? (i := 71) rfl), good_of_word rfl⟩
theorem tw171 : lwG (.selects RX6 yX6_loadSalt yX6_loadSalt) := ⟨lwT3 (List.mem_of_getElem? (i := 74) rfl), good_of_word rfl⟩
theorem tw172 : lwG (.instanceMethod yX6_loadSalt) := ⟨lwT3 (List.mem_of_getElem? (i := 73) rfl), good_of_word rfl⟩
theorem tw173 : lwG (.methodLink RL 42 yX6_loadSalt) := ⟨lwT3 (List.mem_of_getElem? (i := 72) rfl), good_of_word rfl⟩
theorem tw174 : lwG (.code yX6_loadSalt cX6_loadSalt 3 (some .int)) := ⟨lwT3 (List.mem_of_getElem? (i := 75) rfl), good_of_word rfl⟩
theorem tw175 : lwG (.code yX5_fillStore cX5_fillStore 2 (some .int)) := ⟨lwT3 (List.mem_of_getElem? (i := 79) rfl), good_of_word rfl⟩
theorem tw176 : lwG (.selects RX5 yX5_fillStore yX5_fillStore) := ⟨lwT3 (List.mem_of_getElem? (i := 78) rfl), good_of_word rfl⟩
theorem tw177 : lwG (.instanceMethod yX5_fillStore) := ⟨lwT3 (List.mem_of_getElem? (i := 77) rfl), good_of_word rfl⟩
theorem tw178 : lwG (.methodLink RX6 127 yX5_fillStore) := ⟨lwT3 (List.mem_of_getElem? (i := 76) rfl), good_of_word rfl⟩
theorem tw179 : lwG (.selects RX6 yX6_setSnowfall yX6_setSnowfall) := ⟨lwT3 (List.mem_of_getElem? (i := 104) rfl), good_of_word rfl⟩
theorem tw180 : lwG (.instanceMethod yX6_setSnowfall) := ⟨lwT3 (List.mem_of_getElem? (i := 103) rfl), good_of_word rfl⟩
theorem tw181 : lwG (.methodLink RL 45 yX6_setSnowfall) := ⟨lwT3 (List.mem_of_getElem? (i := 102) rfl), good_of_word rfl⟩
theorem tw182 : lwG (.code yX6_setSnowfall cX6_setSnowfall 3 (some .int)) := ⟨lwT3 (List.mem_of_getElem? (i := 105) rfl), good_of_word rfl⟩
theorem tw183 : lwG (.code yX5_changeRate cX5_changeRate 3 (some .int)) := ⟨lwT3 (List.mem_of_getElem? (i := 109) rfl), good_of_word rfl⟩
theorem tw184 : lwG (.selects RX5 yX5_changeRate yX5_changeRate) := ⟨lwT3 (List.mem_of_getElem? (i := 108) rfl), good_of_word rfl⟩
theorem tw185 : lwG (.instanceMethod yX5_changeRate) := ⟨lwT3 (List.mem_of_getElem? (i := 107) rfl), good_of_word rfl⟩
theorem tw186 : lwG (.methodLink RX6 134 yX5_changeRate) := ⟨lwT3 (List.mem_of_getElem? (i := 106) rfl), good_of_word rfl⟩
theorem tw187 : lwG (.selects RX6 yX6_setWind yX6_setWind) := ⟨lwT3 (List.mem_of_getElem? (i := 116) rfl), good_of_word rfl⟩
theorem tw188 : lwG (.instanceMethod yX6_setWind) := ⟨lwT3 (List.mem_of_getElem? (i := 115) rfl), good_of_word rfl⟩
theorem tw189 : lwG (.methodLink RL 48 yX6_setWind) := ⟨lwT3 (List.mem_of_getElem? (i := 114) rfl), good_of_word rfl⟩
theorem tw190 : lwG (.code yX6_setWind cX6_setWind 3 (some .int)) := ⟨lwT3 (List.mem_of_getElem? (i := 117) rfl), good_of_word rfl⟩
theorem tw191 : lwG (.code yX5_changeForce cX5_changeForce 3 (some .int)) := ⟨lwT3 (List.mem_of_getElem? (i := 121) rfl), good_of_word rfl⟩
theorem tw192 : lwG (.selects RX5 yX5_changeForce yX5_changeForce) := ⟨lwT3 (List.mem_of_getElem? (i := 120) rfl), good_of_word rfl⟩
theorem tw193 : lwG (.instanceMethod yX5_changeForce) := ⟨lwT3 (List.mem_of_getElem? (i := 119) rfl), good_of_word rfl⟩
theorem tw194 : lwG (.methodLink RX6 139 yX5_changeForce) := ⟨lwT3 (List.mem_of_getElem? (i := 118) rfl), good_of_word rfl⟩
theorem tw195 : lwG (.selects RX6 yX6_advance yX6_advance) := ⟨lwT3 (List.mem_of_getElem? (i := 128) rfl), good_of_word rfl⟩
theorem tw196 : lwG (.instanceMethod yX6_advance) := ⟨lwT3 (List.mem_of_getElem? (i := 127) rfl), good_of_word rfl⟩
theorem tw197 : lwG (.methodLink RL 51 yX6_advance) := ⟨lwT3 (List.mem_of_getElem? (i := 126) rfl), good_of_word rfl⟩
theorem tw198 : lwG (.code yX6_advance cX6_advance 3 (some .int)) := ⟨lwT3 (List.mem_of_getElem? (i := 129) rfl), good_of_word rfl⟩
theorem tw199 : lwG (.code yX2_canBegin cX2_canBegin 2 (some .boolean)) := ⟨lwT3 (List.mem_of_getElem? (i := 137) rfl), good_of_word rfl⟩
theorem tw200 : lwG (.selects RX2 yX2_canBegin yX2_canBegin) := ⟨lwT3 (List.mem_of_getElem? (i := 136) rfl), good_of_word rfl⟩
theorem tw201 : lwG (.instanceMethod yX2_canBegin) := ⟨lwT3 (List.mem_of_getElem? (i := 135) rfl), good_of_word rfl⟩
theorem tw202 : lwG (.methodLink RX5 107 yX2_canBegin) := ⟨lwT3 (List.mem_of_getElem? (i := 134) rfl), good_of_word rfl⟩
theorem tw203 : lwG (.fieldLink RX5 104 "SnowDispatcher$Ploughs" "count" "I") := ⟨lwT4 (List.mem_of_getElem? (i := 169) rfl), good_of_word rfl⟩
theorem tw204 : lwG (.code yX5_passMinutes cX5_passMinutes 5 (some .int)) := ⟨lwT3 (List.mem_of_getElem? (i := 133) rfl), good_of_word rfl⟩
theorem tw205 : lwG (.selects RX5 yX5_passMinutes yX5_passMinutes) := ⟨lwT3 (List.mem_of_getElem? (i := 132) rfl), good_of_word rfl⟩
theorem tw206 : lwG (.instanceMethod yX5_passMinutes) := ⟨lwT3 (List.mem_of_getElem? (i := 131) rfl), good_of_word rfl⟩
theorem tw207 : lwG (.methodLink RX6 144 yX5_passMinutes) := ⟨lwT3 (List.mem_of_getElem? (i := 130) rfl), good_of_word rfl⟩
theorem tw208 : lwG (.fieldLink RX5 146 "SnowDispatcher$Ploughs" "place" "[I") := ⟨lwT4 (List.mem_of_getElem? (i := 159) rfl), good_of_word rfl⟩
theorem tw209 : lwG (.code yX5_minutesFor cX5_minutesFor 4 (some .int)) := ⟨lwT3 (List.mem_of_getElem? (i := 151) rfl), good_of_word rfl⟩
theorem tw210 : lwG (.selects RX5 yX5_minutesFor yX5_minutesFor) := ⟨lwT3 (List.mem_of_getElem? (i := 150) rfl), good_of_word rfl⟩
theorem tw211 : lwG (.instanceMethod yX5_minutesFor) := ⟨lwT3 (List.mem_of_getElem? (i := 149) rfl), good_of_word rfl⟩
theorem tw212 : lwG (.methodLink RX5 126 yX5_minutesFor) := ⟨lwT3 (List.mem_of_getElem? (i := 148) rfl), good_of_word rfl⟩
theorem tw213 : lwG (.code yX2_removeFirst cX2_removeFirst 5 (some .int)) := ⟨lwT3 (List.mem_of_getElem? (i := 146) rfl), good_of_word rfl⟩
theorem tw214 : lwG (.selects RX2 yX2_removeFirst yX2_removeFirst) := ⟨lwT3 (List.mem_of_getElem? (i := 145) rfl), good_of_word rfl⟩
theorem tw215 : lwG (.instanceMethod yX2_removeFirst) := ⟨lwT3 (List.mem_of_getElem? (i := 144) rfl), good_of_word rfl⟩
theorem tw216 : lwG (.methodLink RX5 123 yX2_removeFirst) := ⟨lwT3 (List.mem_of_getElem? (i := 143) rfl), good_of_word rfl⟩
theorem tw217 : lwG (.fieldLink RX5 9 "SnowDispatcher$Town" "paths" "LSnowDispatcher$Paths;") := ⟨lwT4 (List.mem_of_getElem? (i := 184) rfl), good_of_word rfl⟩
theorem tw218 : lwG (.fieldLink RX5 133 "SnowDispatcher$Streets" "higher" "[I") := ⟨lwT4 (List.mem_of_getElem? (i := 112) rfl), good_of_word rfl⟩
theorem tw219 : lwG (.fieldLink RX5 130 "SnowDispatcher$Streets" "lower" "[I") := ⟨lwT4 (List.mem_of_getElem? (i := 109) rfl), good_of_word rfl⟩
theorem tw220 : lwG (.constant RX5 129 (1000000)) := ⟨lwT3 (List.mem_of_getElem? (i := 153) rfl), good_of_word rfl⟩
theorem tw221 : lwG (.code yX5_beginOrder cX5_beginOrder 7 none) := ⟨lwT3 (List.mem_of_getElem? (i := 142) rfl), good_of_word rfl⟩
theorem tw222 : lwG (.selects RX5 yX5_beginOrder yX5_beginOrder) := ⟨lwT0 (List.mem_of_getElem? (i := 2) rfl), good_of_word rfl⟩
theorem tw223 : lwG (.instanceMethod yX5_beginOrder) := ⟨lwT3 (List.mem_of_getElem? (i := 140) rfl), good_of_word rfl⟩
theorem tw224 : lwG (.methodLink RX5 110 yX5_beginOrder) := ⟨lwT3 (List.mem_of_getElem? (i := 138) rfl), good_of_word rfl⟩
theorem tw225 : lwG (.code yX1_nearestOpen cX1_nearestOpen 4 (some .int)) := ⟨lwT3 (List.mem_of_getElem? (i := 163) rfl), good_of_word rfl⟩
theorem tw226 : lwG (.selects RX1 yX1_nearestOpen yX1_nearestOpen) := ⟨lwT0 (List.mem_of_getElem? (i := 3) rfl), good_of_word rfl⟩
theorem tw227 : lwG (.instanceMethod yX1_nearestOpen) := ⟨lwT3 (List.mem_of_getElem? (i := 161) rfl), good_of_word rfl⟩
theorem tw228 : lwG (.methodLink RX1 23 yX1_nearestOpen) := ⟨lwT3 (List.mem_of_getElem? (i := 159) rfl), good_of_word rfl⟩
theorem tw229 : lwG (.methodLink RX1 44 Lib.Math.min.name) := ⟨lwT3 (List.mem_of_getElem? (i := 171) rfl), good_of_word rfl⟩
theorem tw230 : lwG (.fieldLink RX1 41 "SnowDispatcher$Streets" "size" "[I") := ⟨lwT4 (List.mem_of_getElem? (i := 117) rfl), good_of_word rfl⟩
theorem tw231 : lwG (.fieldLink RX1 31 "SnowDispatcher$Streets" "count" "I") := ⟨lwT4 (List.mem_of_getElem? (i := 130) rfl), good_of_word rfl⟩
theorem tw232 : lwG (.fieldLink RX1 15 "SnowDispatcher$Paths" "settled" "[Z") := ⟨lwT4 (List.mem_of_getElem? (i := 85) rfl), good_of_word rfl⟩
theorem tw233 : lwG (.constant RX1 22 (1000000)) := ⟨lwT3 (List.mem_of_getElem? (i := 158) rfl), good_of_word rfl⟩
theorem tw234 : lwG (.fieldLink RX1 9 "SnowDispatcher$Paths" "reach" "[I") := ⟨lwT4 (List.mem_of_getElem? (i := 84) rfl), good_of_word rfl⟩
theorem tw235 : lwG (.code yX1_measureFrom cX1_measureFrom 7 none) := ⟨lwT3 (List.mem_of_getElem? (i := 157) rfl), good_of_word rfl⟩
theorem tw236 : lwG (.initialized RX1) := ⟨lwT1 (List.mem_of_getElem? (i := 2) rfl), good_of_word rfl⟩
theorem tw237 : lwG (.selects RX1 yX1_measureFrom yX1_measureFrom) := ⟨lwT3 (List.mem_of_getElem? (i := 156) rfl), good_of_word rfl⟩
theorem tw238 : lwG (.instanceMethod yX1_measureFrom) := ⟨lwT3 (List.mem_of_getElem? (i := 155) rfl), good_of_word rfl⟩
theorem tw239 : lwG (.methodLink RX5 149 yX1_measureFrom) := ⟨lwT3 (List.mem_of_getElem? (i := 154) rfl), good_of_word rfl⟩
theorem tw240 : lwG (.methodLink RX5 145 yX2_has) := ⟨lwT3 (List.mem_of_getElem? (i := 152) rfl), good_of_word rfl⟩
theorem tw241 : lwG (.fieldLink RX5 156 "SnowDispatcher$Streets" "clearings" "[I") := ⟨lwT4 (List.mem_of_getElem? (i := 128) rfl), good_of_word rfl⟩
theorem tw242 : lwG (.fieldLink RX5 153 "SnowDispatcher$Streets" "snow" "[I") := ⟨lwT4 (List.mem_of_getElem? (i := 121) rfl), good_of_word rfl⟩
theorem tw243 : lwG (.code yX5_clearStreet cX5_clearStreet 2 none) := ⟨lwT3 (List.mem_of_getElem? (i := 188) rfl), good_of_word rfl⟩
theorem tw244 : lwG (.selects RX5 yX5_clearStreet yX5_clearStreet) := ⟨lwT0 (List.mem_of_getElem? (i := 4) rfl), good_of_word rfl⟩
theorem tw245 : lwG (.instanceMethod yX5_clearStreet) := ⟨lwT3 (List.mem_of_getElem? (i := 187) rfl), good_of_word rfl⟩
theorem tw246 : lwG (.methodLink RX5 117 yX5_clearStreet) := ⟨lwT3 (List.mem_of_getElem? (i := 185) rfl), good_of_word rfl⟩
theorem tw247 : lwG (.code yX2_work cX2_work 2 (some .int)) := ⟨lwT3 (List.mem_of_getElem? (i := 184) rfl), good_of_word rfl⟩
theorem tw248 : lwG (.selects RX2 yX2_work yX2_work) := ⟨lwT3 (List.mem_of_getElem? (i := 183) rfl), good_of_word rfl⟩
theorem tw249 : lwG (.instanceMethod yX2_work) := ⟨lwT3 (List.mem_of_getElem? (i := 182) rfl), good_of_word rfl⟩
theorem tw250 : lwG (.methodLink RX5 114 yX2_work) := ⟨lwT3 (List.mem_of_getElem? (i := 181) rfl), good_of_word rfl⟩
theorem tw251 : lwG (.code yX2_begin cX2_begin 5 none) := ⟨lwT3 (List.mem_of_getElem? (i := 180) rfl), good_of_word rfl⟩
theorem tw252 : lwG (.selects RX2 yX2_begin yX2_begin) := ⟨lwT3 (List.mem_of_getElem? (i := 179) rfl), good_of_word rfl⟩
theorem tw253 : lwG (.instanceMethod yX2_begin) := ⟨lwT3 (List.mem_of_getElem? (i := 178) rfl), good_of_word rfl⟩
theorem tw254 : lwG (.methodLink RX5 141 yX2_begin) := ⟨lwT3 (List.mem_of_getElem? (i := 177) rfl), good_of_word rfl⟩
theorem tw255 : lwG (.code yX1_reachOf cX1_reachOf 2 (some .int)) := ⟨lwT3 (List.mem_of_getElem? (i := 175) rfl), good_of_word rfl⟩
theorem tw256 : lwG (.selects RX1 yX1_reachOf yX1_reachOf) := ⟨lwT3 (List.mem_of_getElem? (i := 174) rfl), good_of_word rfl⟩
theorem tw257 : lwG (.instanceMethod yX1_reachOf) := ⟨lwT3 (List.mem_of_getElem? (i := 173) rfl), good_of_word rfl⟩
theorem tw258 : lwG (.methodLink RX5 136 yX1_reachOf) := ⟨lwT3 (List.mem_of_getElem? (i := 172) rfl), good_of_word rfl⟩
theorem tw259 : lwG (.code yX4_otherEnd cX4_otherEnd 3 (some .int)) := ⟨lwT3 (List.mem_of_getElem? (i := 170) rfl), good_of_word rfl⟩
theorem tw260 : lwG (.selects RX4 yX4_otherEnd yX4_otherEnd) := ⟨lwT3 (List.mem_of_getElem? (i := 169) rfl), good_of_word rfl⟩
theorem tw261 : lwG (.instanceMethod yX4_otherEnd) := ⟨lwT3 (List.mem_of_getElem? (i := 168) rfl), good_of_word rfl⟩
theorem tw262 : lwG (.methodLink RX1 37 yX4_otherEnd) := ⟨lwT3 (List.mem_of_getElem? (i := 167) rfl), good_of_word rfl⟩
theorem tw263 : lwG (.selects RX4 yX4_complain yX4_complain) := ⟨lwT3 (List.mem_of_getElem? (i := 209) rfl), good_of_word rfl⟩
theorem tw264 : lwG (.instanceMethod yX4_complain) := ⟨lwT3 (List.mem_of_getElem? (i := 208) rfl), good_of_word rfl⟩
theorem tw265 : lwG (.methodLink RX5 168 yX4_complain) := ⟨lwT3 (List.mem_of_getElem? (i := 207) rfl), good_of_word rfl⟩
theorem tw266 : lwG (.code yX4_drift cX4_drift 5 none) := ⟨lwT3 (List.mem_of_getElem? (i := 206) rfl), good_of_word rfl⟩
theorem tw267 : lwG (.selects RX4 yX4_drift yX4_drift) := ⟨lwT3 (List.mem_of_getElem? (i := 205) rfl), good_of_word rfl⟩
theorem tw268 : lwG (.instanceMethod yX4_drift) := ⟨lwT3 (List.mem_of_getElem? (i := 204) rfl), good_of_word rfl⟩
theorem tw269 : lwG (.methodLink RX5 165 yX4_drift) := ⟨lwT3 (List.mem_of_getElem? (i := 203) rfl), good_of_word rfl⟩
theorem tw270 : lwG (.methodLink RX4 71 Lib.Math.max.name) := ⟨lwT3 (List.mem_of_getElem? (i := 202) rfl), good_of_word rfl⟩
theorem tw271 : lwG (.code yX4_melt cX4_melt 3 none) := ⟨lwT3 (List.mem_of_getElem? (i := 201) rfl), good_of_word rfl⟩
theorem tw272 : lwG (.selects RX4 yX4_melt yX4_melt) := ⟨lwT3 (List.mem_of_getElem? (i := 200) rfl), good_of_word rfl⟩
theorem tw273 : lwG (.instanceMethod yX4_melt) := ⟨lwT3 (List.mem_of_getElem? (i := 199) rfl), good_of_word rfl⟩
theorem tw274 : lwG (.methodLink RX5 162 yX4_melt) := ⟨lwT3 (List.mem_of_getElem? (i := 198) rfl), good_of_word rfl⟩
theorem tw275 : lwG (.methodLink RX4 66 Lib.Math.min.name) := ⟨lwT3 (List.mem_of_getElem? (i := 197) rfl), good_of_word rfl⟩
theorem tw276 : lwG (.code yX4_fall cX4_fall 3 none) := ⟨lwT3 (List.mem_of_getElem? (i := 196) rfl), good_of_word rfl⟩
theorem tw277 : lwG (.selects RX4 yX4_fall yX4_fall) := ⟨lwT3 (List.mem_of_getElem? (i := 195) rfl), good_of_word rfl⟩
theorem tw278 : lwG (.instanceMethod yX4_fall) := ⟨lwT3 (List.mem_of_getElem? (i := 194) rfl), good_of_word rfl⟩
theorem tw279 : lwG (.methodLink RX5 159 yX4_fall) := ⟨lwT3 (List.mem_of_getElem? (i := 193) rfl), good_of_word rfl⟩
theorem tw280 : lwG (.code yX5_endHour cX5_endHour 1 none) := ⟨lwT3 (List.mem_of_getElem? (i := 192) rfl), good_of_word rfl⟩
theorem tw281 : lwG (.selects RX5 yX5_endHour yX5_endHour) := ⟨lwT0 (List.mem_of_getElem? (i := 5) rfl), good_of_word rfl⟩
theorem tw282 : lwG (.instanceMethod yX5_endHour) := ⟨lwT3 (List.mem_of_getElem? (i := 191) rfl), good_of_word rfl⟩
theorem tw283 : lwG (.methodLink RX5 120 yX5_endHour) := ⟨lwT3 (List.mem_of_getElem? (i := 189) rfl), good_of_word rfl⟩
theorem tw284 : lwG (.code yX4_excess cX4_excess 3 (some .int)) := ⟨lwT3 (List.mem_of_getElem? (i := 214) rfl), good_of_word rfl⟩
theorem tw285 : lwG (.selects RX4 yX4_excess yX4_excess) := ⟨lwT3 (List.mem_of_getElem? (i := 213) rfl), good_of_word rfl⟩
theorem tw286 : lwG (.instanceMethod yX4_excess) := ⟨lwT3 (List.mem_of_getElem? (i := 212) rfl), good_of_word rfl⟩
theorem tw287 : lwG (.methodLink RX4 59 yX4_excess) := ⟨lwT3 (List.mem_of_getElem? (i := 211) rfl), good_of_word rfl⟩
theorem tw288 : lwG (.code yX4_complain cX4_complain 3 (some .int)) := ⟨lwT3 (List.mem_of_getElem? (i := 210) rfl), good_of_word rfl⟩
theorem tw289 : lwG (.selects RX6 yX6_saltMinutes yX6_saltMinutes) := ⟨lwT6 (List.mem_of_getElem? (i := 82) rfl), good_of_word rfl⟩
theorem tw290 : lwG (.instanceMethod yX6_saltMinutes) := ⟨lwT6 (List.mem_of_getElem? (i := 81) rfl), good_of_word rfl⟩
theorem tw291 : lwG (.methodLink RL 54 yX6_saltMinutes) := ⟨lwT6 (List.mem_of_getElem? (i := 80) rfl), good_of_word rfl⟩
theorem tw292 : lwG (.code yX6_saltMinutes cX6_saltMinutes 3 (some .int)) := ⟨lwT6 (List.mem_of_getElem? (i := 83) rfl), good_of_word rfl⟩
theorem tw293 : lwG (.methodLink RX6 185 yX4_saltLeft) := ⟨lwT2 (List.mem_of_getElem? (i := 215) rfl), good_of_word rfl⟩
theorem tw294 : lwG (.methodLink RX6 158 yX4_has) := ⟨lwT1 (List.mem_of_getElem? (i := 34) rfl), good_of_word rfl⟩
theorem tw295 : lwG (.fieldLink RX6 182 "SnowDispatcher$Town" "time" "I") := ⟨lwT4 (List.mem_of_getElem? (i := 190) rfl), good_of_word rfl⟩
theorem tw296 : lwG (.fieldLink RX6 149 "SnowDispatcher$Town" "streets" "LSnowDispatcher$Streets;") := ⟨lwT4 (List.mem_of_getElem? (i := 186) rfl), good_of_word rfl⟩
theorem tw297 : lwG (.selects RX6 yX6_distance yX6_distance) := ⟨lwT6 (List.mem_of_getElem? (i := 134) rfl), good_of_word rfl⟩
theorem tw298 : lwG (.instanceMethod yX6_distance) := ⟨lwT6 (List.mem_of_getElem? (i := 133) rfl), good_of_word rfl⟩
theorem tw299 : lwG (.methodLink RL 57 yX6_distance) := ⟨lwT6 (List.mem_of_getElem? (i := 132) rfl), good_of_word rfl⟩
theorem tw300 : lwG (.code yX6_distance cX6_distance 4 (some .int)) := ⟨lwT6 (List.mem_of_getElem? (i := 135) rfl), good_of_word rfl⟩
theorem tw301 : lwG (.methodLink RX6 196 yX1_measureFrom) := ⟨lwT6 (List.mem_of_getElem? (i := 137) rfl), good_of_word rfl⟩
theorem tw302 : lwG (.methodLink RX6 193 yX6_isJunction) := ⟨lwT6 (List.mem_of_getElem? (i := 136) rfl), good_of_word rfl⟩
theorem tw303 : lwG (.constant RX6 203 (1000000)) := ⟨lwT6 (List.mem_of_getElem? (i := 139) rfl), good_of_word rfl⟩
theorem tw304 : lwG (.fieldLink RX6 10 "SnowDispatcher" "paths" "LSnowDispatcher$Paths;") := ⟨lwT5 (List.mem_of_getElem? (i := 33) rfl), good_of_word rfl⟩
theorem tw305 : lwG (.methodLink RX6 200 yX1_reachOf) := ⟨lwT6 (List.mem_of_getElem? (i := 138) rfl), good_of_word rfl⟩
theorem tw306 : lwG (.selects RX6 yX6_distanceByJunctions yX6_distanceByJunctions) := ⟨lwT6 (List.mem_of_getElem? (i := 146) rfl), good_of_word rfl⟩
theorem tw307 : lwG (.instanceMethod yX6_distanceByJunctions) := ⟨lwT6 (List.mem_of_getElem? (i := 145) rfl), good_of_word rfl⟩
theorem tw308 : lwG (.methodLink RL 60 yX6_distanceByJunctions) := ⟨lwT6 (List.mem_of_getElem? (i := 144) rfl), good_of_word rfl⟩
theorem tw309 : lwG (.code yX6_distanceByJunctions cX6_distanceByJunctions 4 (some .int)) := ⟨lwT6 (List.mem_of_getElem? (i := 147) rfl), good_of_word rfl⟩
theorem tw310 : lwG (.methodLink RX1 55 yX1_link) := ⟨lwT6 (List.mem_of_getElem? (i := 152) rfl), good_of_word rfl⟩
theorem tw311 : lwG (.fieldLink RX1 52 "SnowDispatcher$Streets" "higher" "[I") := ⟨lwT4 (List.mem_of_getElem? (i := 111) rfl), good_of_word rfl⟩
theorem tw312 : lwG (.fieldLink RX1 49 "SnowDispatcher$Streets" "lower" "[I") := ⟨lwT4 (List.mem_of_getElem? (i := 107) rfl), good_of_word rfl⟩
theorem tw313 : lwG (.fieldLink RX1 19 "SnowDispatcher$Paths" "table" "[I") := ⟨lwT4 (List.mem_of_getElem? (i := 86) rfl), good_of_word rfl⟩
theorem tw314 : lwG (.code yX1_improveAll cX1_improveAll 4 none) := ⟨lwT6 (List.mem_of_getElem? (i := 151) rfl), good_of_word rfl⟩
theorem tw315 : lwG (.selects RX1 yX1_improveAll yX1_improveAll) := ⟨lwT6 (List.mem_of_getElem? (i := 150) rfl), good_of_word rfl⟩
theorem tw316 : lwG (.instanceMethod yX1_improveAll) := ⟨lwT6 (List.mem_of_getElem? (i := 149) rfl), good_of_word rfl⟩
theorem tw317 : lwG (.methodLink RX6 206 yX1_improveAll) := ⟨lwT6 (List.mem_of_getElem? (i := 148) rfl), good_of_word rfl⟩
theorem tw318 : lwG (.methodLink RX6 210 yX1_between) := ⟨lwT6 (List.mem_of_getElem? (i := 164) rfl), good_of_word rfl⟩
theorem tw319 : lwG (.code yX1_between cX1_between 3 (some .int)) := ⟨lwT6 (List.mem_of_getElem? (i := 163) rfl), good_of_word rfl⟩
theorem tw320 : lwG (.selects RX1 yX1_between yX1_between) := ⟨lwT6 (List.mem_of_getElem? (i := 162) rfl), good_of_word rfl⟩
theorem tw321 : lwG (.instanceMethod yX1_between) := ⟨lwT6 (List.mem_of_getElem? (i := 161) rfl), good_of_word rfl⟩
theorem tw322 : lwG (.methodLink RX1 63 yX1_between) := ⟨lwT6 (List.mem_of_getElem? (i := 160) rfl), good_of_word rfl⟩
theorem tw323 : lwG (.code yX1_improveBy cX1_improveBy 5 none) := ⟨lwT6 (List.mem_of_getElem? (i := 159) rfl), good_of_word rfl⟩
theorem tw324 : lwG (.selects RX1 yX1_improveBy yX1_improveBy) := ⟨lwT0 (List.mem_of_getElem? (i := 16) rfl), good_of_word rfl⟩
theorem tw325 : lwG (.instanceMethod yX1_improveBy) := ⟨lwT6 (List.mem_of_getElem? (i := 158) rfl), good_of_word rfl⟩
theorem tw326 : lwG (.methodLink RX1 59 yX1_improveBy) := ⟨lwT6 (List.mem_of_getElem? (i := 156) rfl), good_of_word rfl⟩
theorem tw327 : lwG (.code yX1_link cX1_link 4 none) := ⟨lwT6 (List.mem_of_getElem? (i := 155) rfl), good_of_word rfl⟩
theorem tw328 : lwG (.selects RX1 yX1_link yX1_link) := ⟨lwT0 (List.mem_of_getElem? (i := 15) rfl), good_of_word rfl⟩
theorem tw329 : lwG (.instanceMethod yX1_link) := ⟨lwT6 (List.mem_of_getElem? (i := 154) rfl), good_of_word rfl⟩
theorem tw330 : lwG (.selects RX6 yX6_streetByUrgency yX6_streetByUrgency) := ⟨lwT3 (List.mem_of_getElem? (i := 222) rfl), good_of_word rfl⟩
theorem tw331 : lwG (.instanceMethod yX6_streetByUrgency) := ⟨lwT3 (List.mem_of_getElem? (i := 221) rfl), good_of_word rfl⟩
theorem tw332 : lwG (.methodLink RL 63 yX6_streetByUrgency) := ⟨lwT3 (List.mem_of_getElem? (i := 220) rfl), good_of_word rfl⟩
theorem tw333 : lwG (.code yX6_streetByUrgency cX6_streetByUrgency 3 (some .int)) := ⟨lwT3 (List.mem_of_getElem? (i := 223) rfl), good_of_word rfl⟩
theorem tw334 : lwG (.code yX4_precedes cX4_precedes 3 (some .boolean)) := ⟨lwT3 (List.mem_of_getElem? (i := 236) rfl), good_of_word rfl⟩
theorem tw335 : lwG (.selects RX4 yX4_precedes yX4_precedes) := ⟨lwT0 (List.mem_of_getElem? (i := 7) rfl), good_of_word rfl⟩
theorem tw336 : lwG (.instanceMethod yX4_precedes) := ⟨lwT3 (List.mem_of_getElem? (i := 235) rfl), good_of_word rfl⟩
theorem tw337 : lwG (.methodLink RX4 55 yX4_precedes) := ⟨lwT3 (List.mem_of_getElem? (i := 233) rfl), good_of_word rfl⟩
theorem tw338 : lwG (.code yX4_rankOf cX4_rankOf 4 (some .int)) := ⟨lwT3 (List.mem_of_getElem? (i := 232) rfl), good_of_word rfl⟩
theorem tw339 : lwG (.selects RX4 yX4_rankOf yX4_rankOf) := ⟨lwT0 (List.mem_of_getElem? (i := 6) rfl), good_of_word rfl⟩
theorem tw340 : lwG (.instanceMethod yX4_rankOf) := ⟨lwT3 (List.mem_of_getElem? (i := 230) rfl), good_of_word rfl⟩
theorem tw341 : lwG (.methodLink RX4 51 yX4_rankOf) := ⟨lwT3 (List.mem_of_getElem? (i := 228) rfl), good_of_word rfl⟩
theorem tw342 : lwG (.code yX4_atRank cX4_atRank 3 (some .int)) := ⟨lwT3 (List.mem_of_getElem? (i := 227) rfl), good_of_word rfl⟩
theorem tw343 : lwG (.selects RX4 yX4_atRank yX4_atRank) := ⟨lwT3 (List.mem_of_getElem? (i := 226) rfl), good_of_word rfl⟩
theorem tw344 : lwG (.instanceMethod yX4_atRank) := ⟨lwT3 (List.mem_of_getElem? (i := 225) rfl), good_of_word rfl⟩
theorem tw345 : lwG (.methodLink RX6 213 yX4_atRank) := ⟨lwT3 (List.mem_of_getElem? (i := 224) rfl), good_of_word rfl⟩
theorem tw346 : lwG (.selects RX6 yX6_currentStreet yX6_currentStreet) := ⟨lwT6 (List.mem_of_getElem? (i := 102) rfl), good_of_word rfl⟩
theorem tw347 : lwG (.instanceMethod yX6_currentStreet) := ⟨lwT6 (List.mem_of_getElem? (i := 101) rfl), good_of_word rfl⟩
theorem tw348 : lwG (.methodLink RL 66 yX6_currentStreet) := ⟨lwT6 (List.mem_of_getElem? (i := 100) rfl), good_of_word rfl⟩
theorem tw349 : lwG (.code yX6_currentStreet cX6_currentStreet 2 (some .int)) := ⟨lwT6 (List.mem_of_getElem? (i := 103) rfl), good_of_word rfl⟩
theorem tw350 : lwG (.methodLink RX6 225 yX2_has) := ⟨lwT2 (List.mem_of_getElem? (i := 225) rfl), good_of_word rfl⟩
theorem tw351 : lwG (.fieldLink RX6 234 "SnowDispatcher$Ploughs" "target" "[I") := ⟨lwT4 (List.mem_of_getElem? (i := 162) rfl), good_of_word rfl⟩
theorem tw352 : lwG (.fieldLink RX6 226 "SnowDispatcher$Ploughs" "minutesLeft" "[I") := ⟨lwT4 (List.mem_of_getElem? (i := 164) rfl), good_of_word rfl⟩
theorem tw353 : lwG (.fieldLink RX6 218 "SnowDispatcher$Town" "ploughs" "LSnowDispatcher$Ploughs;") := ⟨lwT4 (List.mem_of_getElem? (i := 188) rfl), good_of_word rfl⟩
theorem tw354 : lwG (.selects RX6 yX6_queuedStreet yX6_queuedStreet) := ⟨lwT6 (List.mem_of_getElem? (i := 114) rfl), good_of_word rfl⟩
theorem tw355 : lwG (.instanceMethod yX6_queuedStreet) := ⟨lwT6 (List.mem_of_getElem? (i := 113) rfl), good_of_word rfl⟩
theorem tw356 : lwG (.methodLink RL 69 yX6_queuedStreet) := ⟨lwT6 (List.mem_of_getElem? (i := 112) rfl), good_of_word rfl⟩
theorem tw357 : lwG (.code yX6_queuedStreet cX6_queuedStreet 4 (some .int)) := ⟨lwT6 (List.mem_of_getElem? (i := 115) rfl), good_of_word rfl⟩
theorem tw358 : lwG (.methodLink RX6 240 yX2_waitingAt) := ⟨lwT2 (List.mem_of_getElem? (i := 230) rfl), good_of_word rfl⟩
theorem tw359 : lwG (.selects RX6 yX6_orderMinutes yX6_orderMinutes) := ⟨lwT6 (List.mem_of_getElem? (i := 186) rfl), good_of_word rfl⟩
theorem tw360 : lwG (.instanceMethod yX6_orderMinutes) := ⟨lwT6 (List.mem_of_getElem? (i := 185) rfl), good_of_word rfl⟩
theorem tw361 : lwG (.methodLink RL 72 yX6_orderMinutes) := ⟨lwT6 (List.mem_of_getElem? (i := 184) rfl), good_of_word rfl⟩
theorem tw362 : lwG (.code yX6_orderMinutes cX6_orderMinutes 4 (some .int)) := ⟨lwT6 (List.mem_of_getElem? (i := 187) rfl), good_of_word rfl⟩
theorem tw363 : lwG (.methodLink RX6 245 yX5_minutesFor) := ⟨lwT6 (List.mem_of_getElem? (i := 188) rfl), good_of_word rfl⟩
theorem tw364 : lwG (.selects RX6 yX6_minutesUntilCleared yX6_minutesUntilCleared) := ⟨lwT4 (List.mem_of_getElem? (i := 18) rfl), good_of_word rfl⟩
theorem tw365 : lwG (.instanceMethod yX6_minutesUntilCleared) := ⟨lwT4 (List.mem_of_getElem? (i := 17) rfl), good_of_word rfl⟩
theorem tw366 : lwG (.methodLink RL 75 yX6_minutesUntilCleared) := ⟨lwT4 (List.mem_of_getElem? (i := 16) rfl), good_of_word rfl⟩
theorem tw367 : lwG (.code yX6_minutesUntilCleared cX6_minutesUntilCleared 3 (some .int)) := ⟨lwT4 (List.mem_of_getElem? (i := 19) rfl), good_of_word rfl⟩
theorem tw368 : lwG (.methodLink RX6 255 yX5_copyFrom) := ⟨lwT2 (List.mem_of_getElem? (i := 239) rfl), good_of_word rfl⟩
theorem tw369 : lwG (.fieldLink RX6 25 "SnowDispatcher" "future" "LSnowDispatcher$Town;") := ⟨lwT5 (List.mem_of_getElem? (i := 35) rfl), good_of_word rfl⟩
theorem tw370 : lwG (.code yX6_foretellClearing cX6_foretellClearing 4 (some .int)) := ⟨lwT4 (List.mem_of_getElem? (i := 24) rfl), good_of_word rfl⟩
theorem tw371 : lwG (.selects RX6 yX6_foretellClearing yX6_foretellClearing) := ⟨lwT0 (List.mem_of_getElem? (i := 8) rfl), good_of_word rfl⟩
theorem tw372 : lwG (.instanceMethod yX6_foretellClearing) := ⟨lwT4 (List.mem_of_getElem? (i := 22) rfl), good_of_word rfl⟩
theorem tw373 : lwG (.methodLink RX6 250 yX6_foretellClearing) := ⟨lwT4 (List.mem_of_getElem? (i := 20) rfl), good_of_word rfl⟩
theorem tw374 : lwG (.code yX4_timesCleared cX4_timesCleared 2 (some .int)) := ⟨lwT4 (List.mem_of_getElem? (i := 28) rfl), good_of_word rfl⟩
theorem tw375 : lwG (.selects RX4 yX4_timesCleared yX4_timesCleared) := ⟨lwT4 (List.mem_of_getElem? (i := 27) rfl), good_of_word rfl⟩
theorem tw376 : lwG (.instanceMethod yX4_timesCleared) := ⟨lwT4 (List.mem_of_getElem? (i := 26) rfl), good_of_word rfl⟩
theorem tw377 : lwG (.methodLink RX6 258 yX4_timesCleared) := ⟨lwT4 (List.mem_of_getElem? (i := 25) rfl), good_of_word rfl⟩
theorem tw378 : lwG (.selects RX6 yX6_depthAfter yX6_depthAfter) := ⟨lwT4 (List.mem_of_getElem? (i := 35) rfl), good_of_word rfl⟩
theorem tw379 : lwG (.instanceMethod yX6_depthAfter) := ⟨lwT4 (List.mem_of_getElem? (i := 34) rfl), good_of_word rfl⟩
theorem tw380 : lwG (.methodLink RL 78 yX6_depthAfter) := ⟨lwT4 (List.mem_of_getElem? (i := 33) rfl), good_of_word rfl⟩
theorem tw381 : lwG (.code yX6_depthAfter cX6_depthAfter 3 (some .int)) := ⟨lwT4 (List.mem_of_getElem? (i := 36) rfl), good_of_word rfl⟩
theorem tw382 : lwG (.fieldLink RX6 176 "SnowDispatcher$Streets" "snow" "[I") := ⟨lwT4 (List.mem_of_getElem? (i := 122) rfl), good_of_word rfl⟩
theorem tw383 : lwG (.selects RX6 yX6_runScript yX6_runScript) := ⟨lwT5 (List.mem_of_getElem? (i := 186) rfl), good_of_word rfl⟩
theorem tw384 : lwG (.instanceMethod yX6_runScript) := ⟨lwT5 (List.mem_of_getElem? (i := 185) rfl), good_of_word rfl⟩
theorem tw385 : lwG (.methodLink RL 81 yX6_runScript) := ⟨lwT5 (List.mem_of_getElem? (i := 184) rfl), good_of_word rfl⟩
theorem tw386 : lwG (.code yX6_runScript cX6_runScript 3 (some .int)) := ⟨lwT5 (List.mem_of_getElem? (i := 187) rfl), good_of_word rfl⟩
theorem tw387 : lwG (.methodLink RX3 74 Lib.Math.max.name) := ⟨lwT6 (List.mem_of_getElem? (i := 3) rfl), good_of_word rfl⟩
theorem tw388 : lwG (.fieldLink RX3 67 "SnowDispatcher$Script" "verb" "I") := ⟨lwT5 (List.mem_of_getElem? (i := 20) rfl), good_of_word rfl⟩
theorem tw389 : lwG (.code yX3_readCommand cX3_readCommand 5 (some .boolean)) := ⟨lwT5 (List.mem_of_getElem? (i := 195) rfl), good_of_word rfl⟩
theorem tw390 : lwG (.selects RX3 yX3_readCommand yX3_readCommand) := ⟨lwT0 (List.mem_of_getElem? (i := 9) rfl), good_of_word rfl⟩
theorem tw391 : lwG (.instanceMethod yX3_readCommand) := ⟨lwT5 (List.mem_of_getElem? (i := 194) rfl), good_of_word rfl⟩
theorem tw392 : lwG (.methodLink RX3 44 yX3_readCommand) := ⟨lwT5 (List.mem_of_getElem? (i := 192) rfl), good_of_word rfl⟩
theorem tw393 : lwG (.fieldLink RX3 12 "SnowDispatcher$Script" "text" "Ljava/lang/StringBuilder;") := ⟨lwT5 (List.mem_of_getElem? (i := 15) rfl), good_of_word rfl⟩
theorem tw394 : lwG (.fieldLink RX3 40 "SnowDispatcher$Script" "at" "I") := ⟨lwT5 (List.mem_of_getElem? (i := 18) rfl), good_of_word rfl⟩
theorem tw395 : lwG (.code yX3_countCommands cX3_countCommands 2 (some .int)) := ⟨lwT5 (List.mem_of_getElem? (i := 191) rfl), good_of_word rfl⟩
theorem tw396 : lwG (.initialized RX3) := ⟨lwT1 (List.mem_of_getElem? (i := 7) rfl), good_of_word rfl⟩
theorem tw397 : lwG (.selects RX3 yX3_countCommands yX3_countCommands) := ⟨lwT5 (List.mem_of_getElem? (i := 190) rfl), good_of_word rfl⟩
theorem tw398 : lwG (.instanceMethod yX3_countCommands) := ⟨lwT5 (List.mem_of_getElem? (i := 189) rfl), good_of_word rfl⟩
theorem tw399 : lwG (.methodLink RX6 337 yX3_countCommands) := ⟨lwT5 (List.mem_of_getElem? (i := 188) rfl), good_of_word rfl⟩
theorem tw400 : lwG (.fieldLink RX6 60 "SnowDispatcher" "refusedCommand" "I") := ⟨lwT5 (List.mem_of_getElem? (i := 42) rfl), good_of_word rfl⟩
theorem tw401 : lwG (.fieldLink RX6 332 "SnowDispatcher$Script" "text" "Ljava/lang/StringBuilder;") := ⟨lwT5 (List.mem_of_getElem? (i := 16) rfl), good_of_word rfl⟩
theorem tw402 : lwG (.fieldLink RX6 56 "SnowDispatcher" "wrongPosition" "I") := ⟨lwT5 (List.mem_of_getElem? (i := 41) rfl), good_of_word rfl⟩
theorem tw403 : lwG (.fieldLink RX6 340 "SnowDispatcher$Script" "at" "I") := ⟨lwT5 (List.mem_of_getElem? (i := 19) rfl), good_of_word rfl⟩
theorem tw404 : lwG (.fieldLink RX6 41 "SnowDispatcher" "script" "LSnowDispatcher$Script;") := ⟨lwT5 (List.mem_of_getElem? (i := 38) rfl), good_of_word rfl⟩
theorem tw405 : lwG (.instanceMethod yJ0_charAt_5068e) := ⟨lwT5 (List.mem_of_getElem? (i := 160) rfl), good_of_word rfl⟩
theorem tw406 : lwG (.methodLink RX3 80 yJ0_charAt_5068e) := ⟨lwT5 (List.mem_of_getElem? (i := 213) rfl), good_of_word rfl⟩
theorem tw407 : lwG (.fieldLink RJ0 15 "java/lang/String" "coder" "B") := ⟨lwT2 (List.mem_of_getElem? (i := 133) rfl), good_of_word rfl⟩
theorem tw408 : lwG (.fieldLink RJ0 38 "java/lang/String" "COMPACT_STRINGS" "Z") := ⟨lwT2 (List.mem_of_getElem? (i := 2) rfl), good_of_word rfl⟩
theorem tw409 : lwG (.code yJ0_coder_7d493 cJ0_coder_7d493 1 (some .byte)) := ⟨lwT2 (List.mem_of_getElem? (i := 1) rfl), good_of_word rfl⟩
theorem tw410 : lwG (.selects RJ0 yJ0_coder_7d493 yJ0_coder_7d493) := ⟨lwT2 (List.mem_of_getElem? (i := 0) rfl), good_of_word rfl⟩
theorem tw411 : lwG (.instanceMethod yJ0_coder_7d493) := ⟨lwT1 (List.mem_of_getElem? (i := 239) rfl), good_of_word rfl⟩
theorem tw412 : lwG (.methodLink RJ0 335 yJ0_coder_7d493) := ⟨lwT1 (List.mem_of_getElem? (i := 238) rfl), good_of_word rfl⟩
theorem tw413 : lwG (.fieldLink RJ0 9 "java/lang/String" "value" "[B") := ⟨lwT2 (List.mem_of_getElem? (i := 132) rfl), good_of_word rfl⟩
theorem tw414 : lwG (.code yJ0_length_8abf5 cJ0_length_8abf5 1 (some .int)) := ⟨lwT1 (List.mem_of_getElem? (i := 237) rfl), good_of_word rfl⟩
theorem tw415 : lwG (.initialized RJ0) := ⟨lwT1 (List.mem_of_getElem? (i := 10) rfl), good_of_word rfl⟩
theorem tw416 : lwG (.selects RJ0 yJ0_length_8abf5 yJ0_length_8abf5) := ⟨lwT1 (List.mem_of_getElem? (i := 236) rfl), good_of_word rfl⟩
theorem tw417 : lwG (.instanceMethod yJ0_length_8abf5) := ⟨lwT1 (List.mem_of_getElem? (i := 235) rfl), good_of_word rfl⟩
theorem tw418 : lwG (.methodLink RX3 64 yJ0_length_8abf5) := ⟨lwT5 (List.mem_of_getElem? (i := 212) rfl), good_of_word rfl⟩
theorem tw419 : lwG (.code yX3_fittingSigns cX3_fittingSigns 3 (some .int)) := ⟨lwT5 (List.mem_of_getElem? (i := 211) rfl), good_of_word rfl⟩
theorem tw420 : lwG (.selects RX3 yX3_fittingSigns yX3_fittingSigns) := ⟨lwT0 (List.mem_of_getElem? (i := 10) rfl), good_of_word rfl⟩
theorem tw421 : lwG (.instanceMethod yX3_fittingSigns) := ⟨lwT5 (List.mem_of_getElem? (i := 210) rfl), good_of_word rfl⟩
theorem tw422 : lwG (.methodLink RX3 60 yX3_fittingSigns) := ⟨lwT5 (List.mem_of_getElem? (i := 208) rfl), good_of_word rfl⟩
theorem tw423 : lwG (.code yX3_formOf cX3_formOf 1 (some (.object "java/lang/String"))) := ⟨lwT5 (List.mem_of_getElem? (i := 198) rfl), good_of_word rfl⟩
theorem tw424 : lwG (.static yX3_formOf) := ⟨lwT5 (List.mem_of_getElem? (i := 197) rfl), good_of_word rfl⟩
theorem tw425 : lwG (.methodLink RX3 56 yX3_formOf) := ⟨lwT5 (List.mem_of_getElem? (i := 196) rfl), good_of_word rfl⟩
theorem tw426 : lwG (.static yJ2_checkIndex_2214a) := ⟨lwT2 (List.mem_of_getElem? (i := 205) rfl), good_of_word rfl⟩
theorem tw427 : lwG (.methodLink RJ2 67 yJ2_checkIndex_2214a) := ⟨lwT2 (List.mem_of_getElem? (i := 204) rfl), good_of_word rfl⟩
theorem tw428 : lwG (.code yJ2_charAt_3b067 cJ2_charAt_3b067 2 (some .char)) := ⟨lwT5 (List.mem_of_getElem? (i := 173) rfl), good_of_word rfl⟩
theorem tw429 : lwG (.initialized RJ2) := ⟨lwT1 (List.mem_of_getElem? (i := 11) rfl), good_of_word rfl⟩
theorem tw430 : lwG (.static yJ2_charAt_3b067) := ⟨lwT5 (List.mem_of_getElem? (i := 172) rfl), good_of_word rfl⟩
theorem tw431 : lwG (.methodLink RJ0 498 yJ2_charAt_3b067) := ⟨lwT5 (List.mem_of_getElem? (i := 171) rfl), good_of_word rfl⟩
theorem tw432 : lwG (.code yJ3_checkIndex_8e157 cJ3_checkIndex_8e157 3 (some .int)) := ⟨lwT2 (List.mem_of_getElem? (i := 212) rfl), good_of_word rfl⟩
theorem tw433 : lwG (.initialized RJ3) := ⟨lwT1 (List.mem_of_getElem? (i := 25) rfl), good_of_word rfl⟩
theorem tw434 : lwG (.static yJ3_checkIndex_8e157) := ⟨lwT2 (List.mem_of_getElem? (i := 211) rfl), good_of_word rfl⟩
theorem tw435 : lwG (.methodLink RJ0 1059 yJ3_checkIndex_8e157) := ⟨lwT2 (List.mem_of_getElem? (i := 210) rfl), good_of_word rfl⟩
theorem tw436 : lwG (.fieldLink RJ0 1053 "jdk/internal/util/Preconditions" "SIOOBE_FORMATTER" "Ljava/util/function/BiFunction;") := ⟨lwT1 (List.mem_of_getElem? (i := 220) rfl), good_of_word rfl⟩
theorem tw437 : lwG (.code yJ0_checkIndex_df160 cJ0_checkIndex_df160 2 none) := ⟨lwT2 (List.mem_of_getElem? (i := 209) rfl), good_of_word rfl⟩
theorem tw438 : lwG (.static yJ0_checkIndex_df160) := ⟨lwT2 (List.mem_of_getElem? (i := 208) rfl), good_of_word rfl⟩
theorem tw439 : lwG (.methodLink RJ1 9 yJ0_checkIndex_df160) := ⟨lwT5 (List.mem_of_getElem? (i := 170) rfl), good_of_word rfl⟩
theorem tw440 : lwG (.code yJ1_charAt_3b067 cJ1_charAt_3b067 2 (some .char)) := ⟨lwT5 (List.mem_of_getElem? (i := 169) rfl), good_of_word rfl⟩
theorem tw441 : lwG (.initialized RJ1) := ⟨lwT1 (List.mem_of_getElem? (i := 26) rfl), good_of_word rfl⟩
theorem tw442 : lwG (.static yJ1_charAt_3b067) := ⟨lwT5 (List.mem_of_getElem? (i := 168) rfl), good_of_word rfl⟩
theorem tw443 : lwG (.methodLink RJ0 495 yJ1_charAt_3b067) := ⟨lwT5 (List.mem_of_getElem? (i := 167) rfl), good_of_word rfl⟩
theorem tw444 : lwG (.code yJ0_isLatin1_aae02 cJ0_isLatin1_aae02 1 (some .boolean)) := ⟨lwT5 (List.mem_of_getElem? (i := 166) rfl), good_of_word rfl⟩
theorem tw445 : lwG (.selects RJ0 yJ0_isLatin1_aae02 yJ0_isLatin1_aae02) := ⟨lwT5 (List.mem_of_getElem? (i := 165) rfl), good_of_word rfl⟩
theorem tw446 : lwG (.instanceMethod yJ0_isLatin1_aae02) := ⟨lwT5 (List.mem_of_getElem? (i := 164) rfl), good_of_word rfl⟩
theorem tw447 : lwG (.methodLink RJ0 492 yJ0_isLatin1_aae02) := ⟨lwT5 (List.mem_of_getElem? (i := 163) rfl), good_of_word rfl⟩
theorem tw448 : lwG (.code yJ0_charAt_5068e cJ0_charAt_5068e 2 (some .char)) := ⟨lwT5 (List.mem_of_getElem? (i := 162) rfl), good_of_word rfl⟩
theorem tw449 : lwG (.selects RJ0 yJ0_charAt_5068e yJ0_charAt_5068e) := ⟨lwT5 (List.mem_of_getElem? (i := 161) rfl), good_of_word rfl⟩
theorem tw450 : lwG (.instanceMethod yJ5_length_8abf5) := ⟨lwT2 (List.mem_of_getElem? (i := 81) rfl), good_of_word rfl⟩
theorem tw451 : lwG (.superclass RJ4 RJ5) := ⟨lwT1 (List.mem_of_getElem? (i := 117) rfl), good_of_word rfl⟩
theorem tw452 : lwG (.sameMethod "java/lang/AbstractStringBuilder" "java/lang/AbstractStringBuilder" "length" "()I") := ⟨lwT2 (List.mem_of_getElem? (i := 82) rfl), good_of_word rfl⟩
theorem tw453 : lwG (.methodLink RJ4 343 yJ5_length_8abf5) := ⟨lwT2 (List.mem_of_getElem? (i := 86) rfl), good_of_word rfl⟩
theorem tw454 : lwG (.code yJ4_length_8abf5 cJ4_length_8abf5 1 (some .int)) := ⟨lwT2 (List.mem_of_getElem? (i := 85) rfl), good_of_word rfl⟩
theorem tw455 : lwG (.initialized RJ4) := ⟨lwT1 (List.mem_of_getElem? (i := 9) rfl), good_of_word rfl⟩
theorem tw456 : lwG (.selects RJ4 yJ4_length_8abf5 yJ4_length_8abf5) := ⟨lwT6 (List.mem_of_getElem? (i := 218) rfl), good_of_word rfl⟩
theorem tw457 : lwG (.instanceMethod yJ4_length_8abf5) := ⟨lwT2 (List.mem_of_getElem? (i := 84) rfl), good_of_word rfl⟩
theorem tw458 : lwG (.methodLink RX3 48 yJ4_length_8abf5) := ⟨lwT5 (List.mem_of_getElem? (i := 218) rfl), good_of_word rfl⟩
theorem tw459 : lwG (.code yX3_signAt cX3_signAt 2 (some .char)) := ⟨lwT5 (List.mem_of_getElem? (i := 217) rfl), good_of_word rfl⟩
theorem tw460 : lwG (.selects RX3 yX3_signAt yX3_signAt) := ⟨lwT0 (List.mem_of_getElem? (i := 11) rfl), good_of_word rfl⟩
theorem tw461 : lwG (.instanceMethod yX3_signAt) := ⟨lwT5 (List.mem_of_getElem? (i := 216) rfl), good_of_word rfl⟩
theorem tw462 : lwG (.methodLink RX3 52 yX3_signAt) := ⟨lwT5 (List.mem_of_getElem? (i := 214) rfl), good_of_word rfl⟩
theorem tw463 : lwG (.fieldLink RJ2 63 "java/lang/StringUTF16" "LO_BYTE_SHIFT" "I") := ⟨lwT1 (List.mem_of_getElem? (i := 232) rfl), good_of_word rfl⟩
theorem tw464 : lwG (.fieldLink RJ2 59 "java/lang/StringUTF16" "HI_BYTE_SHIFT" "I") := ⟨lwT1 (List.mem_of_getElem? (i := 230) rfl), good_of_word rfl⟩
theorem tw465 : lwG (.fieldLink RJ2 44 "java/lang/StringUTF16" "$assertionsDisabled" "Z") := ⟨lwT1 (List.mem_of_getElem? (i := 228) rfl), good_of_word rfl⟩
theorem tw466 : lwG (.code yJ2_getChar_3b067 cJ2_getChar_3b067 2 (some .char)) := ⟨lwT2 (List.mem_of_getElem? (i := 127) rfl), good_of_word rfl⟩
theorem tw467 : lwG (.static yJ2_getChar_3b067) := ⟨lwT2 (List.mem_of_getElem? (i := 126) rfl), good_of_word rfl⟩
theorem tw468 : lwG (.methodLink RJ2 71 yJ2_getChar_3b067) := ⟨lwT2 (List.mem_of_getElem? (i := 125) rfl), good_of_word rfl⟩
theorem tw469 : lwG (.methodLink RJ2 414 yJ0_checkIndex_df160) := ⟨lwT2 (List.mem_of_getElem? (i := 207) rfl), good_of_word rfl⟩
theorem tw470 : lwG (.code yJ2_length_9d52b cJ2_length_9d52b 1 (some .int)) := ⟨lwT1 (List.mem_of_getElem? (i := 216) rfl), good_of_word rfl⟩
theorem tw471 : lwG (.static yJ2_length_9d52b) := ⟨lwT1 (List.mem_of_getElem? (i := 215) rfl), good_of_word rfl⟩
theorem tw472 : lwG (.methodLink RJ2 48 yJ2_length_9d52b) := ⟨lwT1 (List.mem_of_getElem? (i := 214) rfl), good_of_word rfl⟩
theorem tw473 : lwG (.code yJ2_checkIndex_2214a cJ2_checkIndex_2214a 2 none) := ⟨lwT2 (List.mem_of_getElem? (i := 206) rfl), good_of_word rfl⟩
theorem tw474 : lwG (.code yX3_isDigit cX3_isDigit 1 (some .boolean)) := ⟨lwT5 (List.mem_of_getElem? (i := 234) rfl), good_of_word rfl⟩
theorem tw475 : lwG (.static yX3_isDigit) := ⟨lwT5 (List.mem_of_getElem? (i := 233) rfl), good_of_word rfl⟩
theorem tw476 : lwG (.methodLink RX3 87 yX3_isDigit) := ⟨lwT5 (List.mem_of_getElem? (i := 232) rfl), good_of_word rfl⟩
theorem tw477 : lwG (.code yX3_fits cX3_fits 2 (some .boolean)) := ⟨lwT5 (List.mem_of_getElem? (i := 231) rfl), good_of_word rfl⟩
theorem tw478 : lwG (.static yX3_fits) := ⟨lwT5 (List.mem_of_getElem? (i := 230) rfl), good_of_word rfl⟩
theorem tw479 : lwG (.methodLink RX3 83 yX3_fits) := ⟨lwT5 (List.mem_of_getElem? (i := 229) rfl), good_of_word rfl⟩
theorem tw480 : lwG (.methodLink RJ5 148 yJ2_getChar_3b067) := ⟨lwT5 (List.mem_of_getElem? (i := 228) rfl), good_of_word rfl⟩
theorem tw481 : lwG (.methodLink RJ5 144 yJ0_checkIndex_df160) := ⟨lwT5 (List.mem_of_getElem? (i := 227) rfl), good_of_word rfl⟩
theorem tw482 : lwG (.methodLink RJ5 138 Lib.Math.min.name) := ⟨lwT5 (List.mem_of_getElem? (i := 226) rfl), good_of_word rfl⟩
theorem tw483 : lwG (.fieldLink RJ5 15 "java/lang/AbstractStringBuilder" "value" "[B") := ⟨lwT1 (List.mem_of_getElem? (i := 143) rfl), good_of_word rfl⟩
theorem tw484 : lwG (.fieldLink RJ5 22 "java/lang/AbstractStringBuilder" "coder" "B") := ⟨lwT1 (List.mem_of_getElem? (i := 144) rfl), good_of_word rfl⟩
theorem tw485 : lwG (.code yJ5_charAt_5068e cJ5_charAt_5068e 5 (some .char)) := ⟨lwT5 (List.mem_of_getElem? (i := 225) rfl), good_of_word rfl⟩
theorem tw486 : lwG (.instanceMethod yJ5_charAt_5068e) := ⟨lwT5 (List.mem_of_getElem? (i := 224) rfl), good_of_word rfl⟩
theorem tw487 : lwG (.sameMethod "java/lang/AbstractStringBuilder" "java/lang/AbstractStringBuilder" "charAt" "(I)C") := ⟨lwT6 (List.mem_of_getElem? (i := 219) rfl), good_of_word rfl⟩
theorem tw488 : lwG (.methodLink RJ4 329 yJ5_charAt_5068e) := ⟨lwT5 (List.mem_of_getElem? (i := 223) rfl), good_of_word rfl⟩
theorem tw489 : lwG (.code yJ4_charAt_5068e cJ4_charAt_5068e 2 (some .char)) := ⟨lwT5 (List.mem_of_getElem? (i := 222) rfl), good_of_word rfl⟩
theorem tw490 : lwG (.selects RJ4 yJ4_charAt_5068e yJ4_charAt_5068e) := ⟨lwT5 (List.mem_of_getElem? (i := 221) rfl), good_of_word rfl⟩
theorem tw491 : lwG (.instanceMethod yJ4_charAt_5068e) := ⟨lwT5 (List.mem_of_getElem? (i := 220) rfl), good_of_word rfl⟩
theorem tw492 : lwG (.methodLink RX3 91 yJ4_charAt_5068e) := ⟨lwT5 (List.mem_of_getElem? (i := 219) rfl), good_of_word rfl⟩
theorem tw493 : lwG (.fieldLink RJ5 79 "java/lang/AbstractStringBuilder" "count" "I") := ⟨lwT1 (List.mem_of_getElem? (i := 147) rfl), good_of_word rfl⟩
theorem tw494 : lwG (.code yJ5_length_8abf5 cJ5_length_8abf5 1 (some .int)) := ⟨lwT2 (List.mem_of_getElem? (i := 87) rfl), good_of_word rfl⟩
theorem tw495 : lwG (.initialized RJ5) := ⟨lwT1 (List.mem_of_getElem? (i := 8) rfl), good_of_word rfl⟩
theorem tw496 : lwG (.selects RJ4 ⟨"java/lang/AbstractStringBuilder", "ensureCapacityInternal", "(I)V"⟩ yJ5_ensureCapacityInternal_d00df) := ⟨List.mem_append_left _ (List.mem_of_getElem? (i := 0) rfl), good_of_word rfl⟩
theorem tw497 : lwG (.sameMethod "java/lang/AbstractStringBuilder" "java/lang/AbstractStringBuilder" "ensureCapacityInternal" "(I)V") := ⟨lwT6 (List.mem_of_getElem? (i := 211) rfl), good_of_word rfl⟩
theorem tw498 : lwG (.methodLink RJ5 100 ⟨"java/lang/AbstractStringBuilder", "ensureCapacityInternal", "(I)V"⟩) := ⟨lwT1 (List.mem_of_getElem? (i := 168) rfl), good_of_word rfl⟩
theorem tw499 : lwG (.fieldLink RJ5 73 "java/lang/AbstractStringBuilder" "maybeLatin1" "Z") := ⟨lwT1 (List.mem_of_getElem? (i := 145) rfl), good_of_word rfl⟩
theorem tw500 : lwG (.initialized RJx7c733) := ⟨lwT1 (List.mem_of_getElem? (i := 29) rfl), good_of_word rfl⟩
theorem tw501 : lwG (.instantiable RJx7c733 6) := ⟨lwT1 (List.mem_of_getElem? (i := 121) rfl), good_of_word rfl⟩
theorem tw502 : lwG (.classLink RJ5 129 RJx7c733) := ⟨lwT1 (List.mem_of_getElem? (i := 120) rfl), good_of_word rfl⟩
theorem tw503 : lwG (.code yJ5_setLength_d00df cJ5_setLength_d00df 2 none) := ⟨lwT1 (List.mem_of_getElem? (i := 119) rfl), good_of_word rfl⟩
theorem tw504 : lwG (.instanceMethod yJ5_setLength_d00df) := ⟨lwT1 (List.mem_of_getElem? (i := 118) rfl), good_of_word rfl⟩
theorem tw505 : lwG (.sameMethod "java/lang/AbstractStringBuilder" "java/lang/AbstractStringBuilder" "setLength" "(I)V") := ⟨lwT6 (List.mem_of_getElem? (i := 208) rfl), good_of_word rfl⟩
theorem tw506 : lwG (.methodLink RJ4 333 yJ5_setLength_d00df) := ⟨lwT1 (List.mem_of_getElem? (i := 116) rfl), good_of_word rfl⟩
theorem tw507 : lwG (.code yJ4_setLength_d00df cJ4_setLength_d00df 2 none) := ⟨lwT1 (List.mem_of_getElem? (i := 115) rfl), good_of_word rfl⟩
theorem tw508 : lwG (.selects RJ4 yJ4_setLength_d00df yJ4_setLength_d00df) := ⟨lwT1 (List.mem_of_getElem? (i := 114) rfl), good_of_word rfl⟩
theorem tw509 : lwG (.instanceMethod yJ4_setLength_d00df) := ⟨lwT1 (List.mem_of_getElem? (i := 113) rfl), good_of_word rfl⟩
theorem tw510 : lwG (.methodLink RX6 305 yJ4_setLength_d00df) := ⟨lwT1 (List.mem_of_getElem? (i := 112) rfl), good_of_word rfl⟩
theorem tw511 : lwG (.code yX3_readNumber cX3_readNumber 3 (some .int)) := ⟨lwT6 (List.mem_of_getElem? (i := 2) rfl), good_of_word rfl⟩
theorem tw512 : lwG (.selects RX3 yX3_readNumber yX3_readNumber) := ⟨lwT0 (List.mem_of_getElem? (i := 13) rfl), good_of_word rfl⟩
theorem tw513 : lwG (.instanceMethod yX3_readNumber) := ⟨lwT6 (List.mem_of_getElem? (i := 1) rfl), good_of_word rfl⟩
theorem tw514 : lwG (.methodLink RX3 92 yX3_readNumber) := ⟨lwT5 (List.mem_of_getElem? (i := 239) rfl), good_of_word rfl⟩
theorem tw515 : lwG (.fieldLink RX3 18 "SnowDispatcher$Script" "values" "[I") := ⟨lwT5 (List.mem_of_getElem? (i := 17) rfl), good_of_word rfl⟩
theorem tw516 : lwG (.code yX3_readValues cX3_readValues 5 none) := ⟨lwT5 (List.mem_of_getElem? (i := 238) rfl), good_of_word rfl⟩
theorem tw517 : lwG (.selects RX3 yX3_readValues yX3_readValues) := ⟨lwT0 (List.mem_of_getElem? (i := 12) rfl), good_of_word rfl⟩
theorem tw518 : lwG (.instanceMethod yX3_readValues) := ⟨lwT5 (List.mem_of_getElem? (i := 237) rfl), good_of_word rfl⟩
theorem tw519 : lwG (.methodLink RX3 70 yX3_readValues) := ⟨lwT5 (List.mem_of_getElem? (i := 235) rfl), good_of_word rfl⟩
theorem tw520 : lwG (.native ⟨"java/lang/Object", "clone", "()Ljava/lang/Object;"⟩) := ⟨lwT1 (List.mem_of_getElem? (i := 192) rfl), good_of_word rfl⟩
theorem tw521 : lwG (.sameMethod "[B" "java/lang/Object" "clone" "()Ljava/lang/Object;") := ⟨lwT1 (List.mem_of_getElem? (i := 191) rfl), good_of_word rfl⟩
theorem tw522 : lwG (.methodLink RJ7 310 ⟨"[B", "clone", "()Ljava/lang/Object;"⟩) := ⟨lwT1 (List.mem_of_getElem? (i := 190) rfl), good_of_word rfl⟩
theorem tw523 : lwG (.code yJ7_copyOf_9075b cJ7_copyOf_9075b 3 (some (.array .byte))) := ⟨lwT1 (List.mem_of_getElem? (i := 189) rfl), good_of_word rfl⟩
theorem tw524 : lwG (.initialized RJ7) := ⟨lwT1 (List.mem_of_getElem? (i := 24) rfl), good_of_word rfl⟩
theorem tw525 : lwG (.static yJ7_copyOf_9075b) := ⟨lwT1 (List.mem_of_getElem? (i := 188) rfl), good_of_word rfl⟩
theorem tw526 : lwG (.methodLink RJ5 108 yJ7_copyOf_9075b) := ⟨lwT1 (List.mem_of_getElem? (i := 187) rfl), good_of_word rfl⟩
theorem tw527 : lwG (.code yJ8_hugeLength_7cf53 cJ8_hugeLength_7cf53 3 (some .int)) := ⟨lwT1 (List.mem_of_getElem? (i := 185) rfl), good_of_word rfl⟩
theorem tw528 : lwG (.static yJ8_hugeLength_7cf53) := ⟨lwT1 (List.mem_of_getElem? (i := 184) rfl), good_of_word rfl⟩
theorem tw529 : lwG (.methodLink RJ8 201 yJ8_hugeLength_7cf53) := ⟨lwT1 (List.mem_of_getElem? (i := 183) rfl), good_of_word rfl⟩
theorem tw530 : lwG (.constant RJ8 200 (2147483639)) := ⟨lwT1 (List.mem_of_getElem? (i := 182) rfl), good_of_word rfl⟩
theorem tw531 : lwG (.methodLink RJ8 194 Lib.Math.max.name) := ⟨lwT1 (List.mem_of_getElem? (i := 179) rfl), good_of_word rfl⟩
theorem tw532 : lwG (.code yJ8_newLength_cabcc cJ8_newLength_cabcc 4 (some .int)) := ⟨lwT1 (List.mem_of_getElem? (i := 178) rfl), good_of_word rfl⟩
theorem tw533 : lwG (.initialized RJ8) := ⟨lwT1 (List.mem_of_getElem? (i := 23) rfl), good_of_word rfl⟩
theorem tw534 : lwG (.static yJ8_newLength_cabcc) := ⟨lwT1 (List.mem_of_getElem? (i := 177) rfl), good_of_word rfl⟩
theorem tw535 : lwG (.methodLink RJ5 114 yJ8_newLength_cabcc) := ⟨lwT1 (List.mem_of_getElem? (i := 176) rfl), good_of_word rfl⟩
theorem tw536 : lwG (.constant RJ5 39 (2147483647)) := ⟨lwT1 (List.mem_of_getElem? (i := 186) rfl), good_of_word rfl⟩
theorem tw537 : lwG (.code yJ5_newCapacity_0f7a4 cJ5_newCapacity_0f7a4 6 (some .int)) := ⟨lwT1 (List.mem_of_getElem? (i := 175) rfl), good_of_word rfl⟩
theorem tw538 : lwG (.instanceMethod yJ5_newCapacity_0f7a4) := ⟨lwT1 (List.mem_of_getElem? (i := 174) rfl), good_of_word rfl⟩
theorem tw539 : lwG (.selects RJ4 ⟨"java/lang/AbstractStringBuilder", "newCapacity", "(I)I"⟩ yJ5_newCapacity_0f7a4) := ⟨List.mem_append_left _ (List.mem_of_getElem? (i := 1) rfl), good_of_word rfl⟩
theorem tw540 : lwG (.sameMethod "java/lang/AbstractStringBuilder" "java/lang/AbstractStringBuilder" "newCapacity" "(I)I") := ⟨lwT6 (List.mem_of_getElem? (i := 212) rfl), good_of_word rfl⟩
theorem tw541 : lwG (.methodLink RJ5 104 ⟨"java/lang/AbstractStringBuilder", "newCapacity", "(I)I"⟩) := ⟨lwT1 (List.mem_of_getElem? (i := 172) rfl), good_of_word rfl⟩
theorem tw542 : lwG (.code yJ5_ensureCapacityInternal_d00df cJ5_ensureCapacityInternal_d00df 3 none) := ⟨lwT1 (List.mem_of_getElem? (i := 171) rfl), good_of_word rfl⟩
theorem tw543 : lwG (.instanceMethod yJ5_ensureCapacityInternal_d00df) := ⟨lwT1 (List.mem_of_getElem? (i := 170) rfl), good_of_word rfl⟩
theorem tw544 : lwG (.code yJ7_rangeCheck_23922 cJ7_rangeCheck_23922 3 none) := ⟨lwT2 (List.mem_of_getElem? (i := 159) rfl), good_of_word rfl⟩
theorem tw545 : lwG (.static yJ7_rangeCheck_23922) := ⟨lwT2 (List.mem_of_getElem? (i := 158) rfl), good_of_word rfl⟩
theorem tw546 : lwG (.methodLink RJ7 13 yJ7_rangeCheck_23922) := ⟨lwT2 (List.mem_of_getElem? (i := 157) rfl), good_of_word rfl⟩
theorem tw547 : lwG (.code yJ7_fill_eb02e cJ7_fill_eb02e 5 none) := ⟨lwT2 (List.mem_of_getElem? (i := 156) rfl), good_of_word rfl⟩
theorem tw548 : lwG (.static yJ7_fill_eb02e) := ⟨lwT2 (List.mem_of_getElem? (i := 155) rfl), good_of_word rfl⟩
theorem tw549 : lwG (.methodLink RJ1 236 yJ7_fill_eb02e) := ⟨lwT2 (List.mem_of_getElem? (i := 154) rfl), good_of_word rfl⟩
theorem tw550 : lwG (.code yJ1_fillNull_b72d1 cJ1_fillNull_b72d1 3 none) := ⟨lwT2 (List.mem_of_getElem? (i := 153) rfl), good_of_word rfl⟩
theorem tw551 : lwG (.static yJ1_fillNull_b72d1) := ⟨lwT2 (List.mem_of_getElem? (i := 152) rfl), good_of_word rfl⟩
theorem tw552 : lwG (.methodLink RJ5 133 yJ1_fillNull_b72d1) := ⟨lwT2 (List.mem_of_getElem? (i := 151) rfl), good_of_word rfl⟩
theorem tw553 : lwG (.fieldLink RJ5 18 "java/lang/String" "COMPACT_STRINGS" "Z") := ⟨lwT1 (List.mem_of_getElem? (i := 134) rfl), good_of_word rfl⟩
theorem tw554 : lwG (.code yJ5_isLatin1_aae02 cJ5_isLatin1_aae02 1 (some .boolean)) := ⟨lwT1 (List.mem_of_getElem? (i := 207) rfl), good_of_word rfl⟩
theorem tw555 : lwG (.instanceMethod yJ5_isLatin1_aae02) := ⟨lwT1 (List.mem_of_getElem? (i := 204) rfl), good_of_word rfl⟩
theorem tw556 : lwG (.selects RJ4 ⟨"java/lang/AbstractStringBuilder", "isLatin1", "()Z"⟩ yJ5_isLatin1_aae02) := ⟨lwT1 (List.mem_of_getElem? (i := 206) rfl), good_of_word rfl⟩
theorem tw557 : lwG (.sameMethod "java/lang/AbstractStringBuilder" "java/lang/AbstractStringBuilder" "isLatin1" "()Z") := ⟨lwT1 (List.mem_of_getElem? (i := 205) rfl), good_of_word rfl⟩
theorem tw558 : lwG (.methodLink RJ5 83 ⟨"java/lang/AbstractStringBuilder", "isLatin1", "()Z"⟩) := ⟨lwT1 (List.mem_of_getElem? (i := 203) rfl), good_of_word rfl⟩
theorem tw559 : lwG (.methodLink RJ7 150 arraycopyName) := ⟨lwT1 (List.mem_of_getElem? (i := 200) rfl), good_of_word rfl⟩
theorem tw560 : lwG (.methodLink RJ7 304 Lib.Math.min.name) := ⟨lwT1 (List.mem_of_getElem? (i := 197) rfl), good_of_word rfl⟩
theorem tw561 : lwG (.arrayClass .byte) := ⟨lwT1 (List.mem_of_getElem? (i := 111) rfl), good_of_word rfl⟩
theorem tw562 : lwG (.classLink RJ7 311 "[B") := ⟨lwT1 (List.mem_of_getElem? (i := 196) rfl), good_of_word rfl⟩
theorem tw563 : lwG (.selects "[B" ⟨"[B", "clone", "()Ljava/lang/Object;"⟩ ⟨"java/lang/Object", "clone", "()Ljava/lang/Object;"⟩) := ⟨lwT1 (List.mem_of_getElem? (i := 194) rfl), good_of_word rfl⟩
theorem tw564 : lwG (.instanceMethod ⟨"java/lang/Object", "clone", "()Ljava/lang/Object;"⟩) := ⟨lwT1 (List.mem_of_getElem? (i := 193) rfl), good_of_word rfl⟩
theorem tw565 : lwG (.methodLink RJ2 380 yJ7_fill_eb02e) := ⟨lwT2 (List.mem_of_getElem? (i := 189) rfl), good_of_word rfl⟩
theorem tw566 : lwG (.code yJ2_fillNull_b72d1 cJ2_fillNull_b72d1 3 none) := ⟨lwT2 (List.mem_of_getElem? (i := 188) rfl), good_of_word rfl⟩
theorem tw567 : lwG (.static yJ2_fillNull_b72d1) := ⟨lwT2 (List.mem_of_getElem? (i := 187) rfl), good_of_word rfl⟩
theorem tw568 : lwG (.methodLink RJ5 137 yJ2_fillNull_b72d1) := ⟨lwT2 (List.mem_of_getElem? (i := 186) rfl), good_of_word rfl⟩
theorem tw569 : lwG (.initialized RJx00060) := ⟨lwT1 (List.mem_of_getElem? (i := 16) rfl), good_of_word rfl⟩
theorem tw570 : lwG (.instantiable RJx00060 6) := ⟨lwT2 (List.mem_of_getElem? (i := 164) rfl), good_of_word rfl⟩
theorem tw571 : lwG (.classLink RJ7 68 RJx00060) := ⟨lwT2 (List.mem_of_getElem? (i := 163) rfl), good_of_word rfl⟩
theorem tw572 : lwG (.instantiable RJ4 4) := ⟨lwT1 (List.mem_of_getElem? (i := 126) rfl), good_of_word rfl⟩
theorem tw573 : lwG (.classLink RJ7 45 RJ4) := ⟨lwT2 (List.mem_of_getElem? (i := 107) rfl), good_of_word rfl⟩
theorem tw574 : lwG (.code yX3_readNext cX3_readNext 1 none) := ⟨lwT6 (List.mem_of_getElem? (i := 12) rfl), good_of_word rfl⟩
theorem tw575 : lwG (.selects RX3 yX3_readNext yX3_readNext) := ⟨lwT6 (List.mem_of_getElem? (i := 11) rfl), good_of_word rfl⟩
theorem tw576 : lwG (.instanceMethod yX3_readNext) := ⟨lwT6 (List.mem_of_getElem? (i := 10) rfl), good_of_word rfl⟩
theorem tw577 : lwG (.methodLink RX6 353 yX3_readNext) := ⟨lwT6 (List.mem_of_getElem? (i := 9) rfl), good_of_word rfl⟩
theorem tw578 : lwG (.fieldLink RX6 356 "SnowDispatcher$Script" "verb" "I") := ⟨lwT5 (List.mem_of_getElem? (i := 21) rfl), good_of_word rfl⟩
theorem tw579 : lwG (.code yX6_obeyNext cX6_obeyNext 1 (some .int)) := ⟨lwT6 (List.mem_of_getElem? (i := 8) rfl), good_of_word rfl⟩
theorem tw580 : lwG (.selects RX6 yX6_obeyNext yX6_obeyNext) := ⟨lwT0 (List.mem_of_getElem? (i := 14) rfl), good_of_word rfl⟩
theorem tw581 : lwG (.instanceMethod yX6_obeyNext) := ⟨lwT6 (List.mem_of_getElem? (i := 7) rfl), good_of_word rfl⟩
theorem tw582 : lwG (.methodLink RX6 345 yX6_obeyNext) := ⟨lwT6 (List.mem_of_getElem? (i := 5) rfl), good_of_word rfl⟩
theorem tw583 : lwG (.code yX3_value cX3_value 2 (some .int)) := ⟨lwT6 (List.mem_of_getElem? (i := 16) rfl), good_of_word rfl⟩
theorem tw584 : lwG (.selects RX3 yX3_value yX3_value) := ⟨lwT6 (List.mem_of_getElem? (i := 15) rfl), good_of_word rfl⟩
theorem tw585 : lwG (.instanceMethod yX3_value) := ⟨lwT6 (List.mem_of_getElem? (i := 14) rfl), good_of_word rfl⟩
theorem tw586 : lwG (.methodLink RX6 359 yX3_value) := ⟨lwT6 (List.mem_of_getElem? (i := 13) rfl), good_of_word rfl⟩
theorem tw587 : lwG (.code yX0_read cX0_read 3 none) := ⟨lwT4 (List.mem_of_getElem? (i := 53) rfl), good_of_word rfl⟩
theorem tw588 : lwG (.selects RX0 yX0_read yX0_read) := ⟨lwT4 (List.mem_of_getElem? (i := 52) rfl), good_of_word rfl⟩
theorem tw589 : lwG (.instanceMethod yX0_read) := ⟨lwT4 (List.mem_of_getElem? (i := 51) rfl), good_of_word rfl⟩
theorem tw590 : lwG (.methodLink RX6 348 yX0_read) := ⟨lwT4 (List.mem_of_getElem? (i := 50) rfl), good_of_word rfl⟩
theorem tw591 : lwG (.selects RX6 yX6_undo yX6_undo) := ⟨lwT4 (List.mem_of_getElem? (i := 43) rfl), good_of_word rfl⟩
theorem tw592 : lwG (.instanceMethod yX6_undo) := ⟨lwT4 (List.mem_of_getElem? (i := 42) rfl), good_of_word rfl⟩
theorem tw593 : lwG (.methodLink RL 85 yX6_undo) := ⟨lwT4 (List.mem_of_getElem? (i := 41) rfl), good_of_word rfl⟩
theorem tw594 : lwG (.code yX6_undo cX6_undo 1 (some .int)) := ⟨lwT4 (List.mem_of_getElem? (i := 44) rfl), good_of_word rfl⟩
theorem tw595 : lwG (.code yX0_pop cX0_pop 1 none) := ⟨lwT4 (List.mem_of_getElem? (i := 49) rfl), good_of_word rfl⟩
theorem tw596 : lwG (.selects RX0 yX0_pop yX0_pop) := ⟨lwT4 (List.mem_of_getElem? (i := 48) rfl), good_of_word rfl⟩
theorem tw597 : lwG (.instanceMethod yX0_pop) := ⟨lwT4 (List.mem_of_getElem? (i := 47) rfl), good_of_word rfl⟩
theorem tw598 : lwG (.methodLink RX6 369 yX0_pop) := ⟨lwT4 (List.mem_of_getElem? (i := 46) rfl), good_of_word rfl⟩
theorem tw599 : lwG (.fieldLink RX6 366 "SnowDispatcher$History" "count" "I") := ⟨lwT4 (List.mem_of_getElem? (i := 239) rfl), good_of_word rfl⟩
theorem tw600 : lwG (.selects RX6 yX6_restore yX6_restore) := ⟨lwT4 (List.mem_of_getElem? (i := 59) rfl), good_of_word rfl⟩
theorem tw601 : lwG (.instanceMethod yX6_restore) := ⟨lwT4 (List.mem_of_getElem? (i := 58) rfl), good_of_word rfl⟩
theorem tw602 : lwG (.methodLink RL 88 yX6_restore) := ⟨lwT4 (List.mem_of_getElem? (i := 57) rfl), good_of_word rfl⟩
theorem tw603 : lwG (.code yX6_restore cX6_restore 1 (some .int)) := ⟨lwT4 (List.mem_of_getElem? (i := 60) rfl), good_of_word rfl⟩
theorem tw604 : lwG (.fieldLink RX6 153 "SnowDispatcher$Streets" "count" "I") := ⟨lwT4 (List.mem_of_getElem? (i := 131) rfl), good_of_word rfl⟩
theorem tw605 : lwG (.fieldLink RX6 28 "SnowDispatcher" "snapshot" "LSnowDispatcher$Town;") := ⟨lwT5 (List.mem_of_getElem? (i := 36) rfl), good_of_word rfl⟩
theorem tw606 : lwG (.fieldLink RX6 52 "SnowDispatcher" "saved" "Z") := ⟨lwT5 (List.mem_of_getElem? (i := 40) rfl), good_of_word rfl⟩
theorem tw607 : lwG (.constant RL 7 (69069)) := ⟨lwT4 (List.mem_of_getElem? (i := 68) rfl), good_of_word rfl⟩
theorem tw608 : lwG (.constant RL 8 (1103515245)) := ⟨lwT4 (List.mem_of_getElem? (i := 69) rfl), good_of_word rfl⟩
theorem tw609 : lwG (.initialized RL) := ⟨lwT1 (List.mem_of_getElem? (i := 0) rfl), good_of_word rfl⟩
theorem tw610 : lwG (.static yL_cell) := ⟨lwT4 (List.mem_of_getElem? (i := 66) rfl), good_of_word rfl⟩
theorem tw611 : lwG (.methodLink RL 91 yL_cell) := ⟨lwT4 (List.mem_of_getElem? (i := 65) rfl), good_of_word rfl⟩
theorem tw612 : lwG (.code yL_cell cL_cell 3 (some .int)) := ⟨lwT4 (List.mem_of_getElem? (i := 67) rfl), good_of_word rfl⟩
theorem tw613 : lwG (.constant RL 97 (2147483647)) := ⟨lwT4 (List.mem_of_getElem? (i := 70) rfl), good_of_word rfl⟩
theorem tw614 : lwG (.selects RX6 yX6_streetClass yX6_streetClass) := ⟨lwT6 (List.mem_of_getElem? (i := 67) rfl), good_of_word rfl⟩
theorem tw615 : lwG (.instanceMethod yX6_streetClass) := ⟨lwT6 (List.mem_of_getElem? (i := 66) rfl), good_of_word rfl⟩
theorem tw616 : lwG (.methodLink RL 210 yX6_streetClass) := ⟨lwT6 (List.mem_of_getElem? (i := 65) rfl), good_of_word rfl⟩
theorem tw617 : lwG (.code yX6_streetClass cX6_streetClass 2 (some .char)) := ⟨lwT6 (List.mem_of_getElem? (i := 68) rfl), good_of_word rfl⟩
theorem tw618 : lwG (.fieldLink RX6 169 "SnowDispatcher$Streets" "kind" "[C") := ⟨lwT4 (List.mem_of_getElem? (i := 115) rfl), good_of_word rfl⟩
theorem tw619 : lwG (.arrayClass .int) := ⟨lwT4 (List.mem_of_getElem? (i := 94) rfl), good_of_word rfl⟩
theorem tw620 : lwG (.selects RX6 yX6_time yX6_time) := ⟨lwT6 (List.mem_of_getElem? (i := 23) rfl), good_of_word rfl⟩
theorem tw621 : lwG (.instanceMethod yX6_time) := ⟨lwT6 (List.mem_of_getElem? (i := 22) rfl), good_of_word rfl⟩
theorem tw622 : lwG (.methodLink RL 177 yX6_time) := ⟨lwT6 (List.mem_of_getElem? (i := 21) rfl), good_of_word rfl⟩
theorem tw623 : lwG (.code yX6_time cX6_time 1 (some .int)) := ⟨lwT6 (List.mem_of_getElem? (i := 24) rfl), good_of_word rfl⟩
theorem tw624 : lwG (.selects RX6 yX6_streetCount yX6_streetCount) := ⟨lwT5 (List.mem_of_getElem? (i := 107) rfl), good_of_word rfl⟩
theorem tw625 : lwG (.instanceMethod yX6_streetCount) := ⟨lwT5 (List.mem_of_getElem? (i := 106) rfl), good_of_word rfl⟩
theorem tw626 : lwG (.methodLink RL 126 yX6_streetCount) := ⟨lwT5 (List.mem_of_getElem? (i := 105) rfl), good_of_word rfl⟩
theorem tw627 : lwG (.code yX6_streetCount cX6_streetCount 1 (some .int)) := ⟨lwT5 (List.mem_of_getElem? (i := 108) rfl), good_of_word rfl⟩
theorem tw628 : lwG (.selects RX6 yX6_ploughCount yX6_ploughCount) := ⟨lwT6 (List.mem_of_getElem? (i := 27) rfl), good_of_word rfl⟩
theorem tw629 : lwG (.instanceMethod yX6_ploughCount) := ⟨lwT6 (List.mem_of_getElem? (i := 26) rfl), good_of_word rfl⟩
theorem tw630 : lwG (.methodLink RL 180 yX6_ploughCount) := ⟨lwT6 (List.mem_of_getElem? (i := 25) rfl), good_of_word rfl⟩
theorem tw631 : lwG (.code yX6_ploughCount cX6_ploughCount 1 (some .int)) := ⟨lwT6 (List.mem_of_getElem? (i := 28) rfl), good_of_word rfl⟩
theorem tw632 : lwG (.fieldLink RX6 222 "SnowDispatcher$Ploughs" "count" "I") := ⟨lwT4 (List.mem_of_getElem? (i := 170) rfl), good_of_word rfl⟩
theorem tw633 : lwG (.selects RX6 yX6_saltStore yX6_saltStore) := ⟨lwT6 (List.mem_of_getElem? (i := 31) rfl), good_of_word rfl⟩
theorem tw634 : lwG (.instanceMethod yX6_saltStore) := ⟨lwT6 (List.mem_of_getElem? (i := 30) rfl), good_of_word rfl⟩
theorem tw635 : lwG (.methodLink RL 183 yX6_saltStore) := ⟨lwT6 (List.mem_of_getElem? (i := 29) rfl), good_of_word rfl⟩
theorem tw636 : lwG (.code yX6_saltStore cX6_saltStore 1 (some .int)) := ⟨lwT6 (List.mem_of_getElem? (i := 32) rfl), good_of_word rfl⟩
theorem tw637 : lwG (.fieldLink RX6 263 "SnowDispatcher$Town" "store" "I") := ⟨lwT4 (List.mem_of_getElem? (i := 192) rfl), good_of_word rfl⟩
theorem tw638 : lwG (.selects RX6 yX6_snowfall yX6_snowfall) := ⟨lwT6 (List.mem_of_getElem? (i := 35) rfl), good_of_word rfl⟩
theorem tw639 : lwG (.instanceMethod yX6_snowfall) := ⟨lwT6 (List.mem_of_getElem? (i := 34) rfl), good_of_word rfl⟩
theorem tw640 : lwG (.methodLink RL 186 yX6_snowfall) := ⟨lwT6 (List.mem_of_getElem? (i := 33) rfl), good_of_word rfl⟩
theorem tw641 : lwG (.code yX6_snowfall cX6_snowfall 1 (some .int)) := ⟨lwT6 (List.mem_of_getElem? (i := 36) rfl), good_of_word rfl⟩
theorem tw642 : lwG (.fieldLink RX6 266 "SnowDispatcher$Town" "rate" "I") := ⟨lwT4 (List.mem_of_getElem? (i := 194) rfl), good_of_word rfl⟩
theorem tw643 : lwG (.selects RX6 yX6_wind yX6_wind) := ⟨lwT6 (List.mem_of_getElem? (i := 39) rfl), good_of_word rfl⟩
theorem tw644 : lwG (.instanceMethod yX6_wind) := ⟨lwT6 (List.mem_of_getElem? (i := 38) rfl), good_of_word rfl⟩
theorem tw645 : lwG (.methodLink RL 189 yX6_wind) := ⟨lwT6 (List.mem_of_getElem? (i := 37) rfl), good_of_word rfl⟩
theorem tw646 : lwG (.code yX6_wind cX6_wind 1 (some .int)) := ⟨lwT6 (List.mem_of_getElem? (i := 40) rfl), good_of_word rfl⟩
theorem tw647 : lwG (.fieldLink RX6 269 "SnowDispatcher$Town" "force" "I") := ⟨lwT4 (List.mem_of_getElem? (i := 196) rfl), good_of_word rfl⟩
theorem tw648 : lwG (.selects RX6 yX6_clearedTotal yX6_clearedTotal) := ⟨lwT6 (List.mem_of_getElem? (i := 43) rfl), good_of_word rfl⟩
theorem tw649 : lwG (.instanceMethod yX6_clearedTotal) := ⟨lwT6 (List.mem_of_getElem? (i := 42) rfl), good_of_word rfl⟩
theorem tw650 : lwG (.methodLink RL 192 yX6_clearedTotal) := ⟨lwT6 (List.mem_of_getElem? (i := 41) rfl), good_of_word rfl⟩
theorem tw651 : lwG (.code yX6_clearedTotal cX6_clearedTotal 1 (some .int)) := ⟨lwT6 (List.mem_of_getElem? (i := 44) rfl), good_of_word rfl⟩
theorem tw652 : lwG (.fieldLink RX6 272 "SnowDispatcher$Town" "cleared" "I") := ⟨lwT4 (List.mem_of_getElem? (i := 198) rfl), good_of_word rfl⟩
theorem tw653 : lwG (.selects RX6 yX6_ploughedTotal yX6_ploughedTotal) := ⟨lwT6 (List.mem_of_getElem? (i := 47) rfl), good_of_word rfl⟩
theorem tw654 : lwG (.instanceMethod yX6_ploughedTotal) := ⟨lwT6 (List.mem_of_getElem? (i := 46) rfl), good_of_word rfl⟩
theorem tw655 : lwG (.methodLink RL 195 yX6_ploughedTotal) := ⟨lwT6 (List.mem_of_getElem? (i := 45) rfl), good_of_word rfl⟩
theorem tw656 : lwG (.code yX6_ploughedTotal cX6_ploughedTotal 1 (some .int)) := ⟨lwT6 (List.mem_of_getElem? (i := 48) rfl), good_of_word rfl⟩
theorem tw657 : lwG (.fieldLink RX6 275 "SnowDispatcher$Town" "ploughed" "I") := ⟨lwT4 (List.mem_of_getElem? (i := 200) rfl), good_of_word rfl⟩
theorem tw658 : lwG (.selects RX6 yX6_failedOrders yX6_failedOrders) := ⟨lwT6 (List.mem_of_getElem? (i := 51) rfl), good_of_word rfl⟩
theorem tw659 : lwG (.instanceMethod yX6_failedOrders) := ⟨lwT6 (List.mem_of_getElem? (i := 50) rfl), good_of_word rfl⟩
theorem tw660 : lwG (.methodLink RL 198 yX6_failedOrders) := ⟨lwT6 (List.mem_of_getElem? (i := 49) rfl), good_of_word rfl⟩
theorem tw661 : lwG (.code yX6_failedOrders cX6_failedOrders 1 (some .int)) := ⟨lwT6 (List.mem_of_getElem? (i := 52) rfl), good_of_word rfl⟩
theorem tw662 : lwG (.fieldLink RX6 278 "SnowDispatcher$Town" "failed" "I") := ⟨lwT4 (List.mem_of_getElem? (i := 202) rfl), good_of_word rfl⟩
theorem tw663 : lwG (.selects RX6 yX6_complaintTotal yX6_complaintTotal) := ⟨lwT6 (List.mem_of_getElem? (i := 55) rfl), good_of_word rfl⟩
theorem tw664 : lwG (.instanceMethod yX6_complaintTotal) := ⟨lwT6 (List.mem_of_getElem? (i := 54) rfl), good_of_word rfl⟩
theorem tw665 : lwG (.methodLink RL 201 yX6_complaintTotal) := ⟨lwT6 (List.mem_of_getElem? (i := 53) rfl), good_of_word rfl⟩
theorem tw666 : lwG (.code yX6_complaintTotal cX6_complaintTotal 1 (some .int)) := ⟨lwT6 (List.mem_of_getElem? (i := 56) rfl), good_of_word rfl⟩
theorem tw667 : lwG (.fieldLink RX6 281 "SnowDispatcher$Town" "complained" "I") := ⟨lwT4 (List.mem_of_getElem? (i := 204) rfl), good_of_word rfl⟩
theorem tw668 : lwG (.selects RX6 yX6_junction yX6_junction) := ⟨lwT6 (List.mem_of_getElem? (i := 91) rfl), good_of_word rfl⟩
theorem tw669 : lwG (.instanceMethod yX6_junction) := ⟨lwT6 (List.mem_of_getElem? (i := 90) rfl), good_of_word rfl⟩
theorem tw670 : lwG (.methodLink RL 223 yX6_junction) := ⟨lwT6 (List.mem_of_getElem? (i := 89) rfl), good_of_word rfl⟩
theorem tw671 : lwG (.code yX6_junction cX6_junction 2 (some .int)) := ⟨lwT6 (List.mem_of_getElem? (i := 92) rfl), good_of_word rfl⟩
theorem tw672 : lwG (.fieldLink RX6 229 "SnowDispatcher$Ploughs" "place" "[I") := ⟨lwT4 (List.mem_of_getElem? (i := 160) rfl), good_of_word rfl⟩
theorem tw673 : lwG (.selects RX6 yX6_busyMinutes yX6_busyMinutes) := ⟨lwT6 (List.mem_of_getElem? (i := 95) rfl), good_of_word rfl⟩
theorem tw674 : lwG (.instanceMethod yX6_busyMinutes) := ⟨lwT6 (List.mem_of_getElem? (i := 94) rfl), good_of_word rfl⟩
theorem tw675 : lwG (.methodLink RL 226 yX6_busyMinutes) := ⟨lwT6 (List.mem_of_getElem? (i := 93) rfl), good_of_word rfl⟩
theorem tw676 : lwG (.code yX6_busyMinutes cX6_busyMinutes 2 (some .int)) := ⟨lwT6 (List.mem_of_getElem? (i := 96) rfl), good_of_word rfl⟩
theorem tw677 : lwG (.static yL_currentStreet) := ⟨lwT6 (List.mem_of_getElem? (i := 98) rfl), good_of_word rfl⟩
theorem tw678 : lwG (.methodLink RL 229 yL_currentStreet) := ⟨lwT6 (List.mem_of_getElem? (i := 97) rfl), good_of_word rfl⟩
theorem tw679 : lwG (.codeWith yL_currentStreet cL_currentStreet 3 (some .int) [(0, 5, 6, 15), (0, 5, 10, 35)]) := ⟨lwT6 (List.mem_of_getElem? (i := 99) rfl), good_of_word rfl⟩
theorem tw680 : lwG (.selects RX6 yX6_queueLength yX6_queueLength) := ⟨lwT6 (List.mem_of_getElem? (i := 107) rfl), good_of_word rfl⟩
theorem tw681 : lwG (.instanceMethod yX6_queueLength) := ⟨lwT6 (List.mem_of_getElem? (i := 106) rfl), good_of_word rfl⟩
theorem tw682 : lwG (.methodLink RL 231 yX6_queueLength) := ⟨lwT6 (List.mem_of_getElem? (i := 105) rfl), good_of_word rfl⟩
theorem tw683 : lwG (.code yX6_queueLength cX6_queueLength 2 (some .int)) := ⟨lwT6 (List.mem_of_getElem? (i := 108) rfl), good_of_word rfl⟩
theorem tw684 : lwG (.fieldLink RX6 237 "SnowDispatcher$Ploughs" "waiting" "[I") := ⟨lwT4 (List.mem_of_getElem? (i := 166) rfl), good_of_word rfl⟩
theorem tw685 : lwG (.static yL_queuedStreet) := ⟨lwT6 (List.mem_of_getElem? (i := 110) rfl), good_of_word rfl⟩
theorem tw686 : lwG (.methodLink RL 234 yL_queuedStreet) := ⟨lwT6 (List.mem_of_getElem? (i := 109) rfl), good_of_word rfl⟩
theorem tw687 : lwG (.codeWith yL_queuedStreet cL_queuedStreet 4 (some .int) [(0, 6, 7, 15), (0, 6, 11, 35)]) := ⟨lwT6 (List.mem_of_getElem? (i := 111) rfl), good_of_word rfl⟩
theorem tw688 : lwG (.selects RX6 yX6_lowerEnd yX6_lowerEnd) := ⟨lwT6 (List.mem_of_getElem? (i := 59) rfl), good_of_word rfl⟩
theorem tw689 : lwG (.instanceMethod yX6_lowerEnd) := ⟨lwT6 (List.mem_of_getElem? (i := 58) rfl), good_of_word rfl⟩
theorem tw690 : lwG (.methodLink RL 204 yX6_lowerEnd) := ⟨lwT6 (List.mem_of_getElem? (i := 57) rfl), good_of_word rfl⟩
theorem tw691 : lwG (.code yX6_lowerEnd cX6_lowerEnd 2 (some .int)) := ⟨lwT6 (List.mem_of_getElem? (i := 60) rfl), good_of_word rfl⟩
theorem tw692 : lwG (.fieldLink RX6 162 "SnowDispatcher$Streets" "lower" "[I") := ⟨lwT4 (List.mem_of_getElem? (i := 108) rfl), good_of_word rfl⟩
theorem tw693 : lwG (.selects RX6 yX6_higherEnd yX6_higherEnd) := ⟨lwT6 (List.mem_of_getElem? (i := 63) rfl), good_of_word rfl⟩
theorem tw694 : lwG (.instanceMethod yX6_higherEnd) := ⟨lwT6 (List.mem_of_getElem? (i := 62) rfl), good_of_word rfl⟩
theorem tw695 : lwG (.methodLink RL 207 yX6_higherEnd) := ⟨lwT6 (List.mem_of_getElem? (i := 61) rfl), good_of_word rfl⟩
theorem tw696 : lwG (.code yX6_higherEnd cX6_higherEnd 2 (some .int)) := ⟨lwT6 (List.mem_of_getElem? (i := 64) rfl), good_of_word rfl⟩
theorem tw697 : lwG (.fieldLink RX6 166 "SnowDispatcher$Streets" "higher" "[I") := ⟨lwT4 (List.mem_of_getElem? (i := 113) rfl), good_of_word rfl⟩
theorem tw698 : lwG (.selects RX6 yX6_length yX6_length) := ⟨lwT6 (List.mem_of_getElem? (i := 71) rfl), good_of_word rfl⟩
theorem tw699 : lwG (.instanceMethod yX6_length) := ⟨lwT6 (List.mem_of_getElem? (i := 70) rfl), good_of_word rfl⟩
theorem tw700 : lwG (.methodLink RL 213 yX6_length) := ⟨lwT6 (List.mem_of_getElem? (i := 69) rfl), good_of_word rfl⟩
theorem tw701 : lwG (.code yX6_length cX6_length 2 (some .int)) := ⟨lwT6 (List.mem_of_getElem? (i := 72) rfl), good_of_word rfl⟩
theorem tw702 : lwG (.fieldLink RX6 173 "SnowDispatcher$Streets" "size" "[I") := ⟨lwT4 (List.mem_of_getElem? (i := 119) rfl), good_of_word rfl⟩
theorem tw703 : lwG (.selects RX6 yX6_depth yX6_depth) := ⟨lwT6 (List.mem_of_getElem? (i := 75) rfl), good_of_word rfl⟩
theorem tw704 : lwG (.instanceMethod yX6_depth) := ⟨lwT6 (List.mem_of_getElem? (i := 74) rfl), good_of_word rfl⟩
theorem tw705 : lwG (.methodLink RL 215 yX6_depth) := ⟨lwT6 (List.mem_of_getElem? (i := 73) rfl), good_of_word rfl⟩
theorem tw706 : lwG (.code yX6_depth cX6_depth 2 (some .int)) := ⟨lwT6 (List.mem_of_getElem? (i := 76) rfl), good_of_word rfl⟩
theorem tw707 : lwG (.static yL_saltMinutes) := ⟨lwT6 (List.mem_of_getElem? (i := 78) rfl), good_of_word rfl⟩
theorem tw708 : lwG (.methodLink RL 218 yL_saltMinutes) := ⟨lwT6 (List.mem_of_getElem? (i := 77) rfl), good_of_word rfl⟩
theorem tw709 : lwG (.codeWith yL_saltMinutes cL_saltMinutes 3 (some .int) [(0, 5, 6, 15), (0, 5, 10, 35)]) := ⟨lwT6 (List.mem_of_getElem? (i := 79) rfl), good_of_word rfl⟩
theorem tw710 : lwG (.selects RX6 yX6_complaints yX6_complaints) := ⟨lwT6 (List.mem_of_getElem? (i := 87) rfl), good_of_word rfl⟩
theorem tw711 : lwG (.instanceMethod yX6_complaints) := ⟨lwT6 (List.mem_of_getElem? (i := 86) rfl), good_of_word rfl⟩
theorem tw712 : lwG (.methodLink RL 220 yX6_complaints) := ⟨lwT6 (List.mem_of_getElem? (i := 85) rfl), good_of_word rfl⟩
theorem tw713 : lwG (.code yX6_complaints cX6_complaints 2 (some .int)) := ⟨lwT6 (List.mem_of_getElem? (i := 88) rfl), good_of_word rfl⟩
theorem tw714 : lwG (.fieldLink RX6 190 "SnowDispatcher$Streets" "complained" "[I") := ⟨lwT4 (List.mem_of_getElem? (i := 126) rfl), good_of_word rfl⟩
theorem tw715 : lwG (.classLink RL 236 "[[I") := ⟨lwT6 (List.mem_of_getElem? (i := 126) rfl), good_of_word rfl⟩
theorem tw716 : lwG (.methodLink RL 238 Lib.Math.min.name) := ⟨lwT6 (List.mem_of_getElem? (i := 128) rfl), good_of_word rfl⟩
theorem tw717 : lwG (.static yL_distances) := ⟨lwT6 (List.mem_of_getElem? (i := 124) rfl), good_of_word rfl⟩
theorem tw718 : lwG (.methodLink RL 243 yL_distances) := ⟨lwT6 (List.mem_of_getElem? (i := 123) rfl), good_of_word rfl⟩
theorem tw719 : lwG (.code yL_distances cL_distances 5 (some (.array (.array .int)))) := ⟨lwT6 (List.mem_of_getElem? (i := 125) rfl), good_of_word rfl⟩
theorem tw720 : lwG (.selects RX6 yX6_isConsistent yX6_isConsistent) := ⟨lwT6 (List.mem_of_getElem? (i := 192) rfl), good_of_word rfl⟩
theorem tw721 : lwG (.instanceMethod yX6_isConsistent) := ⟨lwT6 (List.mem_of_getElem? (i := 191) rfl), good_of_word rfl⟩
theorem tw722 : lwG (.methodLink RL 268 yX6_isConsistent) := ⟨lwT6 (List.mem_of_getElem? (i := 190) rfl), good_of_word rfl⟩
theorem tw723 : lwG (.code yX6_isConsistent cX6_isConsistent 1 (some .boolean)) := ⟨lwT6 (List.mem_of_getElem? (i := 193) rfl), good_of_word rfl⟩
theorem tw724 : lwG (.code yX6_distancesAgree cX6_distancesAgree 3 (some .boolean)) := ⟨lwT6 (List.mem_of_getElem? (i := 197) rfl), good_of_word rfl⟩
theorem tw725 : lwG (.selects RX6 yX6_distancesAgree yX6_distancesAgree) := ⟨lwT0 (List.mem_of_getElem? (i := 17) rfl), good_of_word rfl⟩
theorem tw726 : lwG (.instanceMethod yX6_distancesAgree) := ⟨lwT6 (List.mem_of_getElem? (i := 196) rfl), good_of_word rfl⟩
theorem tw727 : lwG (.methodLink RX6 295 yX6_distancesAgree) := ⟨lwT6 (List.mem_of_getElem? (i := 194) rfl), good_of_word rfl⟩
theorem tw728 : lwG (.code yX4_depthsAllowed cX4_depthsAllowed 2 (some .boolean)) := ⟨lwT6 (List.mem_of_getElem? (i := 205) rfl), good_of_word rfl⟩
theorem tw729 : lwG (.selects RX4 yX4_depthsAllowed yX4_depthsAllowed) := ⟨lwT6 (List.mem_of_getElem? (i := 204) rfl), good_of_word rfl⟩
theorem tw730 : lwG (.instanceMethod yX4_depthsAllowed) := ⟨lwT6 (List.mem_of_getElem? (i := 203) rfl), good_of_word rfl⟩
theorem tw731 : lwG (.methodLink RX6 302 yX4_depthsAllowed) := ⟨lwT6 (List.mem_of_getElem? (i := 202) rfl), good_of_word rfl⟩
theorem tw732 : lwG (.code yX4_complaintSum cX4_complaintSum 3 (some .int)) := ⟨lwT6 (List.mem_of_getElem? (i := 201) rfl), good_of_word rfl⟩
theorem tw733 : lwG (.selects RX4 yX4_complaintSum yX4_complaintSum) := ⟨lwT6 (List.mem_of_getElem? (i := 200) rfl), good_of_word rfl⟩
theorem tw734 : lwG (.instanceMethod yX4_complaintSum) := ⟨lwT6 (List.mem_of_getElem? (i := 199) rfl), good_of_word rfl⟩
theorem tw735 : lwG (.methodLink RX6 299 yX4_complaintSum) := ⟨lwT6 (List.mem_of_getElem? (i := 198) rfl), good_of_word rfl⟩
theorem tw736 : lwG (.selects RX6 yX6_isBusy yX6_isBusy) := ⟨lwT6 (List.mem_of_getElem? (i := 179) rfl), good_of_word rfl⟩
theorem tw737 : lwG (.instanceMethod yX6_isBusy) := ⟨lwT6 (List.mem_of_getElem? (i := 178) rfl), good_of_word rfl⟩
theorem tw738 : lwG (.methodLink RL 263 yX6_isBusy) := ⟨lwT6 (List.mem_of_getElem? (i := 177) rfl), good_of_word rfl⟩
theorem tw739 : lwG (.code yX6_isBusy cX6_isBusy 2 (some .boolean)) := ⟨lwT6 (List.mem_of_getElem? (i := 180) rfl), good_of_word rfl⟩
theorem tw740 : lwG (.static yL_orderMinutes) := ⟨lwT6 (List.mem_of_getElem? (i := 182) rfl), good_of_word rfl⟩
theorem tw741 : lwG (.methodLink RL 266 yL_orderMinutes) := ⟨lwT6 (List.mem_of_getElem? (i := 181) rfl), good_of_word rfl⟩
theorem tw742 : lwG (.codeWith yL_orderMinutes cL_orderMinutes 4 (some .int) [(0, 6, 7, 15), (0, 6, 11, 35)]) := ⟨lwT6 (List.mem_of_getElem? (i := 183) rfl), good_of_word rfl⟩
theorem tw743 : lwG (.selects RX6 yX6_isOverdue yX6_isOverdue) := ⟨lwT6 (List.mem_of_getElem? (i := 167) rfl), good_of_word rfl⟩
theorem tw744 : lwG (.instanceMethod yX6_isOverdue) := ⟨lwT6 (List.mem_of_getElem? (i := 166) rfl), good_of_word rfl⟩
theorem tw745 : lwG (.methodLink RL 251 yX6_isOverdue) := ⟨lwT6 (List.mem_of_getElem? (i := 165) rfl), good_of_word rfl⟩
theorem tw746 : lwG (.code yX6_isOverdue cX6_isOverdue 2 (some .boolean)) := ⟨lwT6 (List.mem_of_getElem? (i := 168) rfl), good_of_word rfl⟩
theorem tw747 : lwG (.methodLink RX6 179 yX4_excess) := ⟨lwT6 (List.mem_of_getElem? (i := 169) rfl), good_of_word rfl⟩
theorem tw748 : lwG (.static yL_limit) := ⟨lwT6 (List.mem_of_getElem? (i := 171) rfl), good_of_word rfl⟩
theorem tw749 : lwG (.methodLink RL 255 yL_limit) := ⟨lwT6 (List.mem_of_getElem? (i := 170) rfl), good_of_word rfl⟩
theorem tw750 : lwG (.code yL_limit cL_limit 2 (some .int)) := ⟨lwT6 (List.mem_of_getElem? (i := 172) rfl), good_of_word rfl⟩
theorem tw751 : lwG (.selects RX6 yX6_isSalted yX6_isSalted) := ⟨lwT6 (List.mem_of_getElem? (i := 175) rfl), good_of_word rfl⟩
theorem tw752 : lwG (.instanceMethod yX6_isSalted) := ⟨lwT6 (List.mem_of_getElem? (i := 174) rfl), good_of_word rfl⟩
theorem tw753 : lwG (.methodLink RL 258 yX6_isSalted) := ⟨lwT6 (List.mem_of_getElem? (i := 173) rfl), good_of_word rfl⟩
theorem tw754 : lwG (.code yX6_isSalted cX6_isSalted 2 (some .boolean)) := ⟨lwT6 (List.mem_of_getElem? (i := 176) rfl), good_of_word rfl⟩
theorem tw755 : lwG (.static yL_depthAfter) := ⟨lwT4 (List.mem_of_getElem? (i := 31) rfl), good_of_word rfl⟩
theorem tw756 : lwG (.methodLink RL 261 yL_depthAfter) := ⟨lwT4 (List.mem_of_getElem? (i := 30) rfl), good_of_word rfl⟩
theorem tw757 : lwG (.codeWith yL_depthAfter cL_depthAfter 4 (some .int) [(0, 6, 7, 15), (0, 6, 11, 18)]) := ⟨lwT4 (List.mem_of_getElem? (i := 32) rfl), good_of_word rfl⟩
theorem tw758 : lwG (.static yL_distance) := ⟨lwT6 (List.mem_of_getElem? (i := 130) rfl), good_of_word rfl⟩
theorem tw759 : lwG (.methodLink RL 247 yL_distance) := ⟨lwT6 (List.mem_of_getElem? (i := 129) rfl), good_of_word rfl⟩
theorem tw760 : lwG (.codeWith yL_distance cL_distance 4 (some .int) [(0, 6, 7, 15), (0, 6, 11, 35)]) := ⟨lwT6 (List.mem_of_getElem? (i := 131) rfl), good_of_word rfl⟩
theorem tw761 : lwG (.static yL_distanceByJunctions) := ⟨lwT6 (List.mem_of_getElem? (i := 142) rfl), good_of_word rfl⟩
theorem tw762 : lwG (.methodLink RL 249 yL_distanceByJunctions) := ⟨lwT6 (List.mem_of_getElem? (i := 141) rfl), good_of_word rfl⟩
theorem tw763 : lwG (.codeWith yL_distanceByJunctions cL_distanceByJunctions 4 (some .int) [(0, 6, 7, 15), (0, 6, 11, 35)]) := ⟨lwT6 (List.mem_of_getElem? (i := 143) rfl), good_of_word rfl⟩
theorem tw764 : lwG (.methodLink RL 98 yJ0_length_8abf5) := ⟨lwT5 (List.mem_of_getElem? (i := 158) rfl), good_of_word rfl⟩
theorem tw765 : lwG (.static yL_runScript) := ⟨lwT5 (List.mem_of_getElem? (i := 182) rfl), good_of_word rfl⟩
theorem tw766 : lwG (.methodLink RL 112 yL_runScript) := ⟨lwT5 (List.mem_of_getElem? (i := 181) rfl), good_of_word rfl⟩
theorem tw767 : lwG (.codeWith yL_runScript cL_runScript 2 (some .int) [(0, 4, 5, 18), (0, 4, 9, 21)]) := ⟨lwT5 (List.mem_of_getElem? (i := 183) rfl), good_of_word rfl⟩
theorem tw768 : lwG (.constant RL 111 (-900009)) := ⟨lwT5 (List.mem_of_getElem? (i := 180) rfl), good_of_word rfl⟩
theorem tw769 : lwG (.methodLink RL 103 yJ0_charAt_5068e) := ⟨lwT5 (List.mem_of_getElem? (i := 159) rfl), good_of_word rfl⟩
theorem tw770 : lwG (.selects RX6 yX6_type yX6_type) := ⟨lwT5 (List.mem_of_getElem? (i := 176) rfl), good_of_word rfl⟩
theorem tw771 : lwG (.instanceMethod yX6_type) := ⟨lwT5 (List.mem_of_getElem? (i := 175) rfl), good_of_word rfl⟩
theorem tw772 : lwG (.methodLink RL 107 yX6_type) := ⟨lwT5 (List.mem_of_getElem? (i := 174) rfl), good_of_word rfl⟩
theorem tw773 : lwG (.code yX6_type cX6_type 2 (some .int)) := ⟨lwT5 (List.mem_of_getElem? (i := 177) rfl), good_of_word rfl⟩
theorem tw774 : lwG (.sameMethod "java/lang/AbstractStringBuilder" "java/lang/AbstractStringBuilder" "append" "(C)Ljava/lang/AbstractStringBuilder;") := ⟨lwT6 (List.mem_of_getElem? (i := 217) rfl), good_of_word rfl⟩
theorem tw775 : lwG (.methodLink RJ4 50 yJ5_append_3fe6f) := ⟨lwT2 (List.mem_of_getElem? (i := 195) rfl), good_of_word rfl⟩
theorem tw776 : lwG (.code yJ4_append_cf468 cJ4_append_cf468 2 (some (.object "java/lang/StringBuilder"))) := ⟨lwT2 (List.mem_of_getElem? (i := 194) rfl), good_of_word rfl⟩
theorem tw777 : lwG (.selects RJ4 yJ4_append_cf468 yJ4_append_cf468) := ⟨lwT2 (List.mem_of_getElem? (i := 193) rfl), good_of_word rfl⟩
theorem tw778 : lwG (.instanceMethod yJ4_append_cf468) := ⟨lwT2 (List.mem_of_getElem? (i := 192) rfl), good_of_word rfl⟩
theorem tw779 : lwG (.methodLink RX6 313 yJ4_append_cf468) := ⟨lwT2 (List.mem_of_getElem? (i := 191) rfl), good_of_word rfl⟩
theorem tw780 : lwG (.methodLink RX6 321 yJ4_length_8abf5) := ⟨lwT2 (List.mem_of_getElem? (i := 220) rfl), good_of_word rfl⟩
theorem tw781 : lwG (.code yJ5_append_3fe6f cJ5_append_3fe6f 2 (some (.object "java/lang/AbstractStringBuilder"))) := ⟨lwT2 (List.mem_of_getElem? (i := 197) rfl), good_of_word rfl⟩
theorem tw782 : lwG (.instanceMethod yJ5_append_3fe6f) := ⟨lwT2 (List.mem_of_getElem? (i := 196) rfl), good_of_word rfl⟩
theorem tw783 : lwG (.methodLink RJ1 240 yJ2_inflate_0e8fd) := ⟨lwT2 (List.mem_of_getElem? (i := 19) rfl), good_of_word rfl⟩
theorem tw784 : lwG (.code yJ1_inflate_0e8fd cJ1_inflate_0e8fd 5 none) := ⟨lwT2 (List.mem_of_getElem? (i := 18) rfl), good_of_word rfl⟩
theorem tw785 : lwG (.static yJ1_inflate_0e8fd) := ⟨lwT2 (List.mem_of_getElem? (i := 17) rfl), good_of_word rfl⟩
theorem tw786 : lwG (.methodLink RJ5 125 yJ1_inflate_0e8fd) := ⟨lwT2 (List.mem_of_getElem? (i := 16) rfl), good_of_word rfl⟩
theorem tw787 : lwG (.constant RJ2 20 (1073741823)) := ⟨lwT1 (List.mem_of_getElem? (i := 142) rfl), good_of_word rfl⟩
theorem tw788 : lwG (.code yJ2_newBytesLength_0f7a4 cJ2_newBytesLength_0f7a4 1 (some .int)) := ⟨lwT1 (List.mem_of_getElem? (i := 141) rfl), good_of_word rfl⟩
theorem tw789 : lwG (.static yJ2_newBytesLength_0f7a4) := ⟨lwT1 (List.mem_of_getElem? (i := 140) rfl), good_of_word rfl⟩
theorem tw790 : lwG (.methodLink RJ2 11 yJ2_newBytesLength_0f7a4) := ⟨lwT1 (List.mem_of_getElem? (i := 139) rfl), good_of_word rfl⟩
theorem tw791 : lwG (.code yJ2_newBytesFor_77867 cJ2_newBytesFor_77867 1 (some (.array .byte))) := ⟨lwT1 (List.mem_of_getElem? (i := 138) rfl), good_of_word rfl⟩
theorem tw792 : lwG (.static yJ2_newBytesFor_77867) := ⟨lwT1 (List.mem_of_getElem? (i := 137) rfl), good_of_word rfl⟩
theorem tw793 : lwG (.methodLink RJ5 26 yJ2_newBytesFor_77867) := ⟨lwT1 (List.mem_of_getElem? (i := 136) rfl), good_of_word rfl⟩
theorem tw794 : lwG (.code yJ5_inflate_da8c8 cJ5_inflate_da8c8 2 none) := ⟨lwT2 (List.mem_of_getElem? (i := 15) rfl), good_of_word rfl⟩
theorem tw795 : lwG (.instanceMethod yJ5_inflate_da8c8) := ⟨lwT2 (List.mem_of_getElem? (i := 14) rfl), good_of_word rfl⟩
theorem tw796 : lwG (.selects RJ4 ⟨"java/lang/AbstractStringBuilder", "inflate", "()V"⟩ yJ5_inflate_da8c8) := ⟨List.mem_append_left _ (List.mem_of_getElem? (i := 2) rfl), good_of_word rfl⟩
theorem tw797 : lwG (.sameMethod "java/lang/AbstractStringBuilder" "java/lang/AbstractStringBuilder" "inflate" "()V") := ⟨lwT6 (List.mem_of_getElem? (i := 215) rfl), good_of_word rfl⟩
theorem tw798 : lwG (.methodLink RJ5 195 ⟨"java/lang/AbstractStringBuilder", "inflate", "()V"⟩) := ⟨lwT2 (List.mem_of_getElem? (i := 12) rfl), good_of_word rfl⟩
theorem tw799 : lwG (.code yJ1_canEncode_fc78d cJ1_canEncode_fc78d 1 (some .boolean)) := ⟨lwT2 (List.mem_of_getElem? (i := 200) rfl), good_of_word rfl⟩
theorem tw800 : lwG (.static yJ1_canEncode_fc78d) := ⟨lwT2 (List.mem_of_getElem? (i := 199) rfl), good_of_word rfl⟩
theorem tw801 : lwG (.methodLink RJ5 191 yJ1_canEncode_fc78d) := ⟨lwT2 (List.mem_of_getElem? (i := 198) rfl), good_of_word rfl⟩
theorem tw802 : lwG (.methodLink RJ5 197 yJ2_putCharSB_b72d1) := ⟨lwT2 (List.mem_of_getElem? (i := 201) rfl), good_of_word rfl⟩
theorem tw803 : lwG (.code yJ2_putChar_b72d1 cJ2_putChar_b72d1 3 none) := ⟨lwT1 (List.mem_of_getElem? (i := 227) rfl), good_of_word rfl⟩
theorem tw804 : lwG (.static yJ2_putChar_b72d1) := ⟨lwT1 (List.mem_of_getElem? (i := 226) rfl), good_of_word rfl⟩
theorem tw805 : lwG (.methodLink RJ2 111 yJ2_putChar_b72d1) := ⟨lwT1 (List.mem_of_getElem? (i := 225) rfl), good_of_word rfl⟩
theorem tw806 : lwG (.code yJ3_checkFromIndexSize_8c36e cJ3_checkFromIndexSize_8c36e 4 (some .int)) := ⟨lwT2 (List.mem_of_getElem? (i := 30) rfl), good_of_word rfl⟩
theorem tw807 : lwG (.static yJ3_checkFromIndexSize_8c36e) := ⟨lwT2 (List.mem_of_getElem? (i := 29) rfl), good_of_word rfl⟩
theorem tw808 : lwG (.methodLink RJ0 1065 yJ3_checkFromIndexSize_8c36e) := ⟨lwT2 (List.mem_of_getElem? (i := 28) rfl), good_of_word rfl⟩
theorem tw809 : lwG (.code yJ0_checkBoundsOffCount_cabcc cJ0_checkBoundsOffCount_cabcc 3 (some .int)) := ⟨lwT2 (List.mem_of_getElem? (i := 27) rfl), good_of_word rfl⟩
theorem tw810 : lwG (.static yJ0_checkBoundsOffCount_cabcc) := ⟨lwT2 (List.mem_of_getElem? (i := 26) rfl), good_of_word rfl⟩
theorem tw811 : lwG (.methodLink RJ2 419 yJ0_checkBoundsOffCount_cabcc) := ⟨lwT2 (List.mem_of_getElem? (i := 25) rfl), good_of_word rfl⟩
theorem tw812 : lwG (.code yJ2_checkBoundsOffCount_d044e cJ2_checkBoundsOffCount_d044e 3 none) := ⟨lwT2 (List.mem_of_getElem? (i := 24) rfl), good_of_word rfl⟩
theorem tw813 : lwG (.static yJ2_checkBoundsOffCount_d044e) := ⟨lwT2 (List.mem_of_getElem? (i := 23) rfl), good_of_word rfl⟩
theorem tw814 : lwG (.methodLink RJ2 173 yJ2_checkBoundsOffCount_d044e) := ⟨lwT2 (List.mem_of_getElem? (i := 22) rfl), good_of_word rfl⟩
theorem tw815 : lwG (.code yJ2_inflate_0e8fd cJ2_inflate_0e8fd 6 none) := ⟨lwT2 (List.mem_of_getElem? (i := 21) rfl), good_of_word rfl⟩
theorem tw816 : lwG (.static yJ2_inflate_0e8fd) := ⟨lwT2 (List.mem_of_getElem? (i := 20) rfl), good_of_word rfl⟩
theorem tw817 : lwG (.code yJ2_putCharSB_b72d1 cJ2_putCharSB_b72d1 3 none) := ⟨lwT2 (List.mem_of_getElem? (i := 203) rfl), good_of_word rfl⟩
theorem tw818 : lwG (.static yJ2_putCharSB_b72d1) := ⟨lwT2 (List.mem_of_getElem? (i := 202) rfl), good_of_word rfl⟩
theorem tw819 : lwG (.classLink RL 10 RX6) := ⟨lwT4 (List.mem_of_getElem? (i := 74) rfl), good_of_word rfl⟩
theorem tw820 : lwG (.instantiable RX6 10) := ⟨lwT4 (List.mem_of_getElem? (i := 23) rfl), good_of_word rfl⟩
theorem tw821 : lwG (.methodLink RL 115 yX6_init) := ⟨lwT4 (List.mem_of_getElem? (i := 75) rfl), good_of_word rfl⟩
theorem tw822 : lwG (.instanceMethod yX6_init) := ⟨lwT4 (List.mem_of_getElem? (i := 76) rfl), good_of_word rfl⟩
theorem tw823 : lwG (.code yX6_init cX6_init 1 none) := ⟨lwT4 (List.mem_of_getElem? (i := 77) rfl), good_of_word rfl⟩
theorem tw824 : lwG (.classLink RX6 45 RJ4) := ⟨lwT5 (List.mem_of_getElem? (i := 31) rfl), good_of_word rfl⟩
theorem tw825 : lwG (.instantiable RX3 4) := ⟨lwT5 (List.mem_of_getElem? (i := 8) rfl), good_of_word rfl⟩
theorem tw826 : lwG (.classLink RX6 38 RX3) := ⟨lwT5 (List.mem_of_getElem? (i := 7) rfl), good_of_word rfl⟩
theorem tw827 : lwG (.instantiable RX0 3) := ⟨lwT3 (List.mem_of_getElem? (i := 31) rfl), good_of_word rfl⟩
theorem tw828 : lwG (.classLink RX6 31 RX0) := ⟨lwT4 (List.mem_of_getElem? (i := 228) rfl), good_of_word rfl⟩
theorem tw829 : lwG (.instantiable RX5 11) := ⟨lwT3 (List.mem_of_getElem? (i := 141) rfl), good_of_word rfl⟩
theorem tw830 : lwG (.classLink RX6 16 RX5) := ⟨lwT4 (List.mem_of_getElem? (i := 96) rfl), good_of_word rfl⟩
theorem tw831 : lwG (.instantiable RX1 3) := ⟨lwT3 (List.mem_of_getElem? (i := 162) rfl), good_of_word rfl⟩
theorem tw832 : lwG (.classLink RX6 7 RX1) := ⟨lwT4 (List.mem_of_getElem? (i := 79) rfl), good_of_word rfl⟩
theorem tw833 : lwG (.code objectInit ⟨#[0xb1]⟩ 1 none) := ⟨lwT1 (List.mem_of_getElem? (i := 65) rfl), good_of_word rfl⟩
theorem tw834 : lwG (.instanceMethod objectInit) := ⟨lwT1 (List.mem_of_getElem? (i := 64) rfl), good_of_word rfl⟩
theorem tw835 : lwG (.methodLink RX6 1 objectInit) := ⟨lwT4 (List.mem_of_getElem? (i := 78) rfl), good_of_word rfl⟩
theorem tw836 : lwG (.instantiable RX2 6) := ⟨lwT4 (List.mem_of_getElem? (i := 153) rfl), good_of_word rfl⟩
theorem tw837 : lwG (.classLink RX5 22 RX2) := ⟨lwT4 (List.mem_of_getElem? (i := 152) rfl), good_of_word rfl⟩
theorem tw838 : lwG (.instantiable RX4 9) := ⟨lwT3 (List.mem_of_getElem? (i := 231) rfl), good_of_word rfl⟩
theorem tw839 : lwG (.classLink RX5 15 RX4) := ⟨lwT4 (List.mem_of_getElem? (i := 101) rfl), good_of_word rfl⟩
theorem tw840 : lwG (.methodLink RX5 3 objectInit) := ⟨lwT4 (List.mem_of_getElem? (i := 100) rfl), good_of_word rfl⟩
theorem tw841 : lwG (.code yX5_init cX5_init 2 none) := ⟨lwT4 (List.mem_of_getElem? (i := 99) rfl), good_of_word rfl⟩
theorem tw842 : lwG (.instanceMethod yX5_init) := ⟨lwT4 (List.mem_of_getElem? (i := 98) rfl), good_of_word rfl⟩
theorem tw843 : lwG (.methodLink RX6 18 yX5_init) := ⟨lwT4 (List.mem_of_getElem? (i := 97) rfl), good_of_word rfl⟩
theorem tw844 : lwG (.arrayClass .boolean) := ⟨lwT4 (List.mem_of_getElem? (i := 95) rfl), good_of_word rfl⟩
theorem tw845 : lwG (.methodLink RX1 3 objectInit) := ⟨lwT4 (List.mem_of_getElem? (i := 83) rfl), good_of_word rfl⟩
theorem tw846 : lwG (.code yX1_init cX1_init 1 none) := ⟨lwT4 (List.mem_of_getElem? (i := 82) rfl), good_of_word rfl⟩
theorem tw847 : lwG (.instanceMethod yX1_init) := ⟨lwT4 (List.mem_of_getElem? (i := 81) rfl), good_of_word rfl⟩
theorem tw848 : lwG (.fieldLink RX6 48 "SnowDispatcher" "output" "Ljava/lang/StringBuilder;") := ⟨lwT5 (List.mem_of_getElem? (i := 39) rfl), good_of_word rfl⟩
theorem tw849 : lwG (.code yX0_init cX0_init 3 none) := ⟨lwT4 (List.mem_of_getElem? (i := 231) rfl), good_of_word rfl⟩
theorem tw850 : lwG (.instanceMethod yX0_init) := ⟨lwT4 (List.mem_of_getElem? (i := 230) rfl), good_of_word rfl⟩
theorem tw851 : lwG (.methodLink RX6 33 yX0_init) := ⟨lwT4 (List.mem_of_getElem? (i := 229) rfl), good_of_word rfl⟩
theorem tw852 : lwG (.methodLink RX2 3 objectInit) := ⟨lwT4 (List.mem_of_getElem? (i := 157) rfl), good_of_word rfl⟩
theorem tw853 : lwG (.code yX2_init cX2_init 1 none) := ⟨lwT4 (List.mem_of_getElem? (i := 156) rfl), good_of_word rfl⟩
theorem tw854 : lwG (.instanceMethod yX2_init) := ⟨lwT4 (List.mem_of_getElem? (i := 155) rfl), good_of_word rfl⟩
theorem tw855 : lwG (.arrayClass .char) := ⟨lwT4 (List.mem_of_getElem? (i := 151) rfl), good_of_word rfl⟩
theorem tw856 : lwG (.methodLink RX4 3 objectInit) := ⟨lwT4 (List.mem_of_getElem? (i := 105) rfl), good_of_word rfl⟩
theorem tw857 : lwG (.code yX4_init cX4_init 1 none) := ⟨lwT4 (List.mem_of_getElem? (i := 104) rfl), good_of_word rfl⟩
theorem tw858 : lwG (.instanceMethod yX4_init) := ⟨lwT4 (List.mem_of_getElem? (i := 103) rfl), good_of_word rfl⟩
theorem tw859 : lwG (.methodLink RJ5 3 objectInit) := ⟨lwT1 (List.mem_of_getElem? (i := 133) rfl), good_of_word rfl⟩
theorem tw860 : lwG (.code yJ5_init_d00df cJ5_init_d00df 2 none) := ⟨lwT1 (List.mem_of_getElem? (i := 132) rfl), good_of_word rfl⟩
theorem tw861 : lwG (.instanceMethod yJ5_init_d00df) := ⟨lwT1 (List.mem_of_getElem? (i := 131) rfl), good_of_word rfl⟩
theorem tw862 : lwG (.methodLink RJ4 1 yJ5_init_d00df) := ⟨lwT1 (List.mem_of_getElem? (i := 130) rfl), good_of_word rfl⟩
theorem tw863 : lwG (.code yJ4_init_da8c8 cJ4_init_da8c8 1 none) := ⟨lwT1 (List.mem_of_getElem? (i := 129) rfl), good_of_word rfl⟩
theorem tw864 : lwG (.instanceMethod yJ4_init_da8c8) := ⟨lwT1 (List.mem_of_getElem? (i := 128) rfl), good_of_word rfl⟩
theorem tw865 : lwG (.methodLink RX3 11 yJ4_init_da8c8) := ⟨lwT5 (List.mem_of_getElem? (i := 14) rfl), good_of_word rfl⟩
theorem tw866 : lwG (.classLink RX3 9 RJ4) := ⟨lwT5 (List.mem_of_getElem? (i := 13) rfl), good_of_word rfl⟩
theorem tw867 : lwG (.methodLink RX3 3 objectInit) := ⟨lwT5 (List.mem_of_getElem? (i := 12) rfl), good_of_word rfl⟩
theorem tw868 : lwG (.code yX3_init cX3_init 1 none) := ⟨lwT5 (List.mem_of_getElem? (i := 11) rfl), good_of_word rfl⟩
theorem tw869 : lwG (.instanceMethod yX3_init) := ⟨lwT5 (List.mem_of_getElem? (i := 10) rfl), good_of_word rfl⟩
theorem tw870 : lwG (.methodLink RX0 17 yX5_init) := ⟨lwT4 (List.mem_of_getElem? (i := 235) rfl), good_of_word rfl⟩
theorem tw871 : lwG (.classLink RX0 11 RX5) := ⟨lwT4 (List.mem_of_getElem? (i := 233) rfl), good_of_word rfl⟩
theorem tw872 : lwG (.methodLink RX0 3 objectInit) := ⟨lwT4 (List.mem_of_getElem? (i := 232) rfl), good_of_word rfl⟩
theorem tw873 : lwG (.methodLink RX6 47 yJ4_init_da8c8) := ⟨lwT5 (List.mem_of_getElem? (i := 32) rfl), good_of_word rfl⟩
theorem tw874 : lwG (.static yL_in) := ⟨lwT4 (List.mem_of_getElem? (i := 63) rfl), good_of_word rfl⟩
theorem tw875 : lwG (.methodLink RL 116 yL_in) := ⟨lwT4 (List.mem_of_getElem? (i := 62) rfl), good_of_word rfl⟩
theorem tw876 : lwG (.code yL_in cL_in 3 (some .int)) := ⟨lwT4 (List.mem_of_getElem? (i := 64) rfl), good_of_word rfl⟩
theorem tw877 : lwG (.static yL_addStreet) := ⟨lwT5 (List.mem_of_getElem? (i := 65) rfl), good_of_word rfl⟩
theorem tw878 : lwG (.methodLink RL 120 yL_addStreet) := ⟨lwT5 (List.mem_of_getElem? (i := 64) rfl), good_of_word rfl⟩
theorem tw879 : lwG (.codeWith yL_addStreet cL_addStreet 6 (some .int) [(0, 9, 10, 15), (0, 9, 15, 18), (0, 9, 20, 21)]) := ⟨lwT5 (List.mem_of_getElem? (i := 66) rfl), good_of_word rfl⟩
theorem tw880 : lwG (.static yL_addPlough) := ⟨lwT5 (List.mem_of_getElem? (i := 90) rfl), good_of_word rfl⟩
theorem tw881 : lwG (.methodLink RL 123 yL_addPlough) := ⟨lwT5 (List.mem_of_getElem? (i := 89) rfl), good_of_word rfl⟩
theorem tw882 : lwG (.codeWith yL_addPlough cL_addPlough 3 (some .int) [(0, 5, 6, 15), (0, 5, 10, 21)]) := ⟨lwT5 (List.mem_of_getElem? (i := 91) rfl), good_of_word rfl⟩
theorem tw883 : lwG (.static yL_loadSalt) := ⟨lwT3 (List.mem_of_getElem? (i := 68) rfl), good_of_word rfl⟩
theorem tw884 : lwG (.methodLink RL 132 yL_loadSalt) := ⟨lwT3 (List.mem_of_getElem? (i := 67) rfl), good_of_word rfl⟩
theorem tw885 : lwG (.codeWith yL_loadSalt cL_loadSalt 3 (some .int) [(0, 5, 6, 18), (0, 5, 10, 40)]) := ⟨lwT3 (List.mem_of_getElem? (i := 69) rfl), good_of_word rfl⟩
theorem tw886 : lwG (.static yL_setSnowfall) := ⟨lwT3 (List.mem_of_getElem? (i := 100) rfl), good_of_word rfl⟩
theorem tw887 : lwG (.methodLink RL 134 yL_setSnowfall) := ⟨lwT3 (List.mem_of_getElem? (i := 99) rfl), good_of_word rfl⟩
theorem tw888 : lwG (.codeWith yL_setSnowfall cL_setSnowfall 3 (some .int) [(0, 5, 6, 18)]) := ⟨lwT3 (List.mem_of_getElem? (i := 101) rfl), good_of_word rfl⟩
theorem tw889 : lwG (.static yL_setWind) := ⟨lwT3 (List.mem_of_getElem? (i := 112) rfl), good_of_word rfl⟩
theorem tw890 : lwG (.methodLink RL 136 yL_setWind) := ⟨lwT3 (List.mem_of_getElem? (i := 111) rfl), good_of_word rfl⟩
theorem tw891 : lwG (.codeWith yL_setWind cL_setWind 3 (some .int) [(0, 5, 6, 18)]) := ⟨lwT3 (List.mem_of_getElem? (i := 113) rfl), good_of_word rfl⟩
theorem tw892 : lwG (.static yL_salt) := ⟨lwT5 (List.mem_of_getElem? (i := 110) rfl), good_of_word rfl⟩
theorem tw893 : lwG (.methodLink RL 138 yL_salt) := ⟨lwT5 (List.mem_of_getElem? (i := 109) rfl), good_of_word rfl⟩
theorem tw894 : lwG (.codeWith yL_salt cL_salt 3 (some .int) [(0, 5, 6, 15), (0, 5, 10, 40), (0, 5, 14, 21)]) := ⟨lwT5 (List.mem_of_getElem? (i := 111) rfl), good_of_word rfl⟩
theorem tw895 : lwG (.constant RL 142 (-90000000)) := ⟨lwT5 (List.mem_of_getElem? (i := 123) rfl), good_of_word rfl⟩
theorem tw896 : lwG (.static yL_advance) := ⟨lwT3 (List.mem_of_getElem? (i := 124) rfl), good_of_word rfl⟩
theorem tw897 : lwG (.methodLink RL 140 yL_advance) := ⟨lwT3 (List.mem_of_getElem? (i := 123) rfl), good_of_word rfl⟩
theorem tw898 : lwG (.codeWith yL_advance cL_advance 3 (some .int) [(0, 5, 6, 18)]) := ⟨lwT3 (List.mem_of_getElem? (i := 125) rfl), good_of_word rfl⟩
theorem tw899 : lwG (.static yL_order) := ⟨lwT3 (List.mem_of_getElem? (i := 14) rfl), good_of_word rfl⟩
theorem tw900 : lwG (.methodLink RL 129 yL_order) := ⟨lwT3 (List.mem_of_getElem? (i := 13) rfl), good_of_word rfl⟩
theorem tw901 : lwG (.codeWith yL_order cL_order 4 (some .int) [(0, 6, 7, 15), (0, 6, 11, 21)]) := ⟨lwT3 (List.mem_of_getElem? (i := 15) rfl), good_of_word rfl⟩
theorem tw902 : lwG (.static yL_cancelOrder) := ⟨lwT5 (List.mem_of_getElem? (i := 128) rfl), good_of_word rfl⟩
theorem tw903 : lwG (.methodLink RL 143 yL_cancelOrder) := ⟨lwT5 (List.mem_of_getElem? (i := 127) rfl), good_of_word rfl⟩
theorem tw904 : lwG (.codeWith yL_cancelOrder cL_cancelOrder 3 (some .int) [(0, 5, 6, 15), (0, 5, 10, 35)]) := ⟨lwT5 (List.mem_of_getElem? (i := 129) rfl), good_of_word rfl⟩
theorem tw905 : lwG (.classLink RL 145 RJ4) := ⟨lwT5 (List.mem_of_getElem? (i := 143) rfl), good_of_word rfl⟩
theorem tw906 : lwG (.methodLink RL 147 yJ4_init_da8c8) := ⟨lwT5 (List.mem_of_getElem? (i := 144) rfl), good_of_word rfl⟩
theorem tw907 : lwG (.selects RJ4 yJ4_append_15ec4 yJ4_append_15ec4) := ⟨lwT1 (List.mem_of_getElem? (i := 159) rfl), good_of_word rfl⟩
theorem tw908 : lwG (.instanceMethod yJ4_append_15ec4) := ⟨lwT1 (List.mem_of_getElem? (i := 158) rfl), good_of_word rfl⟩
theorem tw909 : lwG (.methodLink RL 150 yJ4_append_15ec4) := ⟨lwT5 (List.mem_of_getElem? (i := 146) rfl), good_of_word rfl⟩
theorem tw910 : lwG (.code yJ4_append_15ec4 cJ4_append_15ec4 2 (some (.object "java/lang/StringBuilder"))) := ⟨lwT1 (List.mem_of_getElem? (i := 160) rfl), good_of_word rfl⟩
theorem tw911 : lwG (.code yJ5_appendNull_278bc cJ5_appendNull_278bc 3 (some (.object "java/lang/AbstractStringBuilder"))) := ⟨lwT1 (List.mem_of_getElem? (i := 167) rfl), good_of_word rfl⟩
theorem tw912 : lwG (.instanceMethod yJ5_appendNull_278bc) := ⟨lwT1 (List.mem_of_getElem? (i := 166) rfl), good_of_word rfl⟩
theorem tw913 : lwG (.selects RJ4 ⟨"java/lang/AbstractStringBuilder", "appendNull", "()Ljava/lang/AbstractStringBuilder;"⟩ yJ5_appendNull_278bc) := ⟨List.mem_append_left _ (List.mem_of_getElem? (i := 3) rfl), good_of_word rfl⟩
theorem tw914 : lwG (.sameMethod "java/lang/AbstractStringBuilder" "java/lang/AbstractStringBuilder" "appendNull" "()Ljava/lang/AbstractStringBuilder;") := ⟨lwT6 (List.mem_of_getElem? (i := 210) rfl), good_of_word rfl⟩
theorem tw915 : lwG (.methodLink RJ5 204 ⟨"java/lang/AbstractStringBuilder", "appendNull", "()Ljava/lang/AbstractStringBuilder;"⟩) := ⟨lwT1 (List.mem_of_getElem? (i := 164) rfl), good_of_word rfl⟩
theorem tw916 : lwG (.code yJ5_append_cf1ce cJ5_append_cf1ce 3 (some (.object "java/lang/AbstractStringBuilder"))) := ⟨lwT1 (List.mem_of_getElem? (i := 163) rfl), good_of_word rfl⟩
theorem tw917 : lwG (.instanceMethod yJ5_append_cf1ce) := ⟨lwT1 (List.mem_of_getElem? (i := 162) rfl), good_of_word rfl⟩
theorem tw918 : lwG (.sameMethod "java/lang/AbstractStringBuilder" "java/lang/AbstractStringBuilder" "append" "(Ljava/lang/String;)Ljava/lang/AbstractStringBuilder;") := ⟨lwT6 (List.mem_of_getElem? (i := 209) rfl), good_of_word rfl⟩
theorem tw919 : lwG (.methodLink RJ4 29 yJ5_append_cf1ce) := ⟨lwT1 (List.mem_of_getElem? (i := 161) rfl), good_of_word rfl⟩
theorem tw920 : lwG (.code yJ2_checkBoundsBeginEnd_d044e cJ2_checkBoundsBeginEnd_d044e 3 none) := ⟨lwT1 (List.mem_of_getElem? (i := 213) rfl), good_of_word rfl⟩
theorem tw921 : lwG (.static yJ2_checkBoundsBeginEnd_d044e) := ⟨lwT1 (List.mem_of_getElem? (i := 212) rfl), good_of_word rfl⟩
theorem tw922 : lwG (.methodLink RJ2 96 yJ2_checkBoundsBeginEnd_d044e) := ⟨lwT1 (List.mem_of_getElem? (i := 211) rfl), good_of_word rfl⟩
theorem tw923 : lwG (.code yJ2_putCharsAt_cd4e5 cJ2_putCharsAt_cd4e5 7 (some .int)) := ⟨lwT1 (List.mem_of_getElem? (i := 210) rfl), good_of_word rfl⟩
theorem tw924 : lwG (.static yJ2_putCharsAt_cd4e5) := ⟨lwT1 (List.mem_of_getElem? (i := 209) rfl), good_of_word rfl⟩
theorem tw925 : lwG (.methodLink RJ5 226 yJ2_putCharsAt_cd4e5) := ⟨lwT1 (List.mem_of_getElem? (i := 208) rfl), good_of_word rfl⟩
theorem tw926 : lwG (.methodLink RJ5 32 yJ0_length_8abf5) := ⟨lwT1 (List.mem_of_getElem? (i := 234) rfl), good_of_word rfl⟩
theorem tw927 : lwG (.code yJ3_checkFromToIndex_8c36e cJ3_checkFromToIndex_8c36e 4 (some .int)) := ⟨lwT1 (List.mem_of_getElem? (i := 224) rfl), good_of_word rfl⟩
theorem tw928 : lwG (.static yJ3_checkFromToIndex_8c36e) := ⟨lwT1 (List.mem_of_getElem? (i := 223) rfl), good_of_word rfl⟩
theorem tw929 : lwG (.methodLink RJ0 1062 yJ3_checkFromToIndex_8c36e) := ⟨lwT1 (List.mem_of_getElem? (i := 222) rfl), good_of_word rfl⟩
theorem tw930 : lwG (.code yJ0_checkBoundsBeginEnd_23922 cJ0_checkBoundsBeginEnd_23922 3 none) := ⟨lwT1 (List.mem_of_getElem? (i := 219) rfl), good_of_word rfl⟩
theorem tw931 : lwG (.static yJ0_checkBoundsBeginEnd_23922) := ⟨lwT1 (List.mem_of_getElem? (i := 218) rfl), good_of_word rfl⟩
theorem tw932 : lwG (.methodLink RJ2 241 yJ0_checkBoundsBeginEnd_23922) := ⟨lwT1 (List.mem_of_getElem? (i := 217) rfl), good_of_word rfl⟩
theorem tw933 : lwG (.methodLink RJ5 40 yJ0_coder_7d493) := ⟨lwT2 (List.mem_of_getElem? (i := 11) rfl), good_of_word rfl⟩
theorem tw934 : lwG (.code yJ5_inflateIfNeededFor_a7421 cJ5_inflateIfNeededFor_a7421 2 none) := ⟨lwT2 (List.mem_of_getElem? (i := 10) rfl), good_of_word rfl⟩
theorem tw935 : lwG (.instanceMethod yJ5_inflateIfNeededFor_a7421) := ⟨lwT2 (List.mem_of_getElem? (i := 9) rfl), good_of_word rfl⟩
theorem tw936 : lwG (.selects RJ4 ⟨"java/lang/AbstractStringBuilder", "inflateIfNeededFor", "(Ljava/lang/String;)V"⟩ yJ5_inflateIfNeededFor_a7421) := ⟨List.mem_append_left _ (List.mem_of_getElem? (i := 4) rfl), good_of_word rfl⟩
theorem tw937 : lwG (.sameMethod "java/lang/AbstractStringBuilder" "java/lang/AbstractStringBuilder" "inflateIfNeededFor" "(Ljava/lang/String;)V") := ⟨lwT6 (List.mem_of_getElem? (i := 214) rfl), good_of_word rfl⟩
theorem tw938 : lwG (.methodLink RJ5 397 ⟨"java/lang/AbstractStringBuilder", "inflateIfNeededFor", "(Ljava/lang/String;)V"⟩) := ⟨lwT2 (List.mem_of_getElem? (i := 7) rfl), good_of_word rfl⟩
theorem tw939 : lwG (.code yJ5_putStringAt_47b60 cJ5_putStringAt_47b60 3 none) := ⟨lwT2 (List.mem_of_getElem? (i := 6) rfl), good_of_word rfl⟩
theorem tw940 : lwG (.instanceMethod yJ5_putStringAt_47b60) := ⟨lwT2 (List.mem_of_getElem? (i := 5) rfl), good_of_word rfl⟩
theorem tw941 : lwG (.selects RJ4 ⟨"java/lang/AbstractStringBuilder", "putStringAt", "(ILjava/lang/String;)V"⟩ yJ5_putStringAt_47b60) := ⟨List.mem_append_left _ (List.mem_of_getElem? (i := 5) rfl), good_of_word rfl⟩
theorem tw942 : lwG (.sameMethod "java/lang/AbstractStringBuilder" "java/lang/AbstractStringBuilder" "putStringAt" "(ILjava/lang/String;)V") := ⟨lwT6 (List.mem_of_getElem? (i := 213) rfl), good_of_word rfl⟩
theorem tw943 : lwG (.methodLink RJ5 208 ⟨"java/lang/AbstractStringBuilder", "putStringAt", "(ILjava/lang/String;)V"⟩) := ⟨lwT2 (List.mem_of_getElem? (i := 3) rfl), good_of_word rfl⟩
theorem tw944 : lwG (.methodLink RJ0 106 yJ1_inflate_0e8fd) := ⟨lwT2 (List.mem_of_getElem? (i := 36) rfl), good_of_word rfl⟩
theorem tw945 : lwG (.methodLink RJ0 212 arraycopyName) := ⟨lwT2 (List.mem_of_getElem? (i := 35) rfl), good_of_word rfl⟩
theorem tw946 : lwG (.code yJ0_getBytes_840e7 cJ0_getBytes_840e7 4 none) := ⟨lwT2 (List.mem_of_getElem? (i := 34) rfl), good_of_word rfl⟩
theorem tw947 : lwG (.selects RJ0 yJ0_getBytes_840e7 yJ0_getBytes_840e7) := ⟨lwT2 (List.mem_of_getElem? (i := 33) rfl), good_of_word rfl⟩
theorem tw948 : lwG (.instanceMethod yJ0_getBytes_840e7) := ⟨lwT2 (List.mem_of_getElem? (i := 32) rfl), good_of_word rfl⟩
theorem tw949 : lwG (.methodLink RJ5 399 yJ0_getBytes_840e7) := ⟨lwT2 (List.mem_of_getElem? (i := 31) rfl), good_of_word rfl⟩
theorem tw950 : lwG (.selects RJ4 yJ4_append_bf812 yJ4_append_bf812) := ⟨lwT2 (List.mem_of_getElem? (i := 39) rfl), good_of_word rfl⟩
theorem tw951 : lwG (.instanceMethod yJ4_append_bf812) := ⟨lwT2 (List.mem_of_getElem? (i := 38) rfl), good_of_word rfl⟩
theorem tw952 : lwG (.methodLink RL 154 yJ4_append_bf812) := ⟨lwT5 (List.mem_of_getElem? (i := 147) rfl), good_of_word rfl⟩
theorem tw953 : lwG (.code yJ4_append_bf812 cJ4_append_bf812 2 (some (.object "java/lang/StringBuilder"))) := ⟨lwT2 (List.mem_of_getElem? (i := 40) rfl), good_of_word rfl⟩
theorem tw954 : lwG (.code yJ6_stringSize_0f7a4 cJ6_stringSize_0f7a4 4 (some .int)) := ⟨lwT2 (List.mem_of_getElem? (i := 46) rfl), good_of_word rfl⟩
theorem tw955 : lwG (.initialized RJ6) := ⟨lwT1 (List.mem_of_getElem? (i := 28) rfl), good_of_word rfl⟩
theorem tw956 : lwG (.static yJ6_stringSize_0f7a4) := ⟨lwT2 (List.mem_of_getElem? (i := 45) rfl), good_of_word rfl⟩
theorem tw957 : lwG (.methodLink RJ5 245 yJ6_stringSize_0f7a4) := ⟨lwT2 (List.mem_of_getElem? (i := 44) rfl), good_of_word rfl⟩
theorem tw958 : lwG (.code yJ5_append_c97b9 cJ5_append_c97b9 4 (some (.object "java/lang/AbstractStringBuilder"))) := ⟨lwT2 (List.mem_of_getElem? (i := 43) rfl), good_of_word rfl⟩
theorem tw959 : lwG (.instanceMethod yJ5_append_c97b9) := ⟨lwT2 (List.mem_of_getElem? (i := 42) rfl), good_of_word rfl⟩
theorem tw960 : lwG (.sameMethod "java/lang/AbstractStringBuilder" "java/lang/AbstractStringBuilder" "append" "(I)Ljava/lang/AbstractStringBuilder;") := ⟨lwT6 (List.mem_of_getElem? (i := 216) rfl), good_of_word rfl⟩
theorem tw961 : lwG (.methodLink RJ4 53 yJ5_append_c97b9) := ⟨lwT2 (List.mem_of_getElem? (i := 41) rfl), good_of_word rfl⟩
theorem tw962 : lwG (.code yJ2_getChars_46870 cJ2_getChars_46870 5 (some .int)) := ⟨lwT2 (List.mem_of_getElem? (i := 56) rfl), good_of_word rfl⟩
theorem tw963 : lwG (.static yJ2_getChars_46870) := ⟨lwT2 (List.mem_of_getElem? (i := 55) rfl), good_of_word rfl⟩
theorem tw964 : lwG (.methodLink RJ5 251 yJ2_getChars_46870) := ⟨lwT2 (List.mem_of_getElem? (i := 54) rfl), good_of_word rfl⟩
theorem tw965 : lwG (.fieldLink RJ6 87 "java/lang/Integer" "DigitTens" "[B") := ⟨lwT2 (List.mem_of_getElem? (i := 52) rfl), good_of_word rfl⟩
theorem tw966 : lwG (.fieldLink RJ6 83 "java/lang/Integer" "DigitOnes" "[B") := ⟨lwT2 (List.mem_of_getElem? (i := 50) rfl), good_of_word rfl⟩
theorem tw967 : lwG (.code yJ6_getChars_ba4f3 cJ6_getChars_ba4f3 7 (some .int)) := ⟨lwT2 (List.mem_of_getElem? (i := 49) rfl), good_of_word rfl⟩
theorem tw968 : lwG (.static yJ6_getChars_ba4f3) := ⟨lwT2 (List.mem_of_getElem? (i := 48) rfl), good_of_word rfl⟩
theorem tw969 : lwG (.methodLink RJ5 248 yJ6_getChars_ba4f3) := ⟨lwT2 (List.mem_of_getElem? (i := 47) rfl), good_of_word rfl⟩
theorem tw970 : lwG (.fieldLink RJ2 407 "java/lang/Integer" "DigitTens" "[B") := ⟨lwT2 (List.mem_of_getElem? (i := 61) rfl), good_of_word rfl⟩
theorem tw971 : lwG (.fieldLink RJ2 403 "java/lang/Integer" "DigitOnes" "[B") := ⟨lwT2 (List.mem_of_getElem? (i := 60) rfl), good_of_word rfl⟩
theorem tw972 : lwG (.code yJ2_getChars_ba4f3 cJ2_getChars_ba4f3 7 (some .int)) := ⟨lwT2 (List.mem_of_getElem? (i := 59) rfl), good_of_word rfl⟩
theorem tw973 : lwG (.static yJ2_getChars_ba4f3) := ⟨lwT2 (List.mem_of_getElem? (i := 58) rfl), good_of_word rfl⟩
theorem tw974 : lwG (.methodLink RJ2 393 yJ2_getChars_ba4f3) := ⟨lwT2 (List.mem_of_getElem? (i := 57) rfl), good_of_word rfl⟩
theorem tw975 : lwG (.selects RJ4 yJ4_toString_0e30d yJ4_toString_0e30d) := ⟨lwT2 (List.mem_of_getElem? (i := 64) rfl), good_of_word rfl⟩
theorem tw976 : lwG (.instanceMethod yJ4_toString_0e30d) := ⟨lwT2 (List.mem_of_getElem? (i := 63) rfl), good_of_word rfl⟩
theorem tw977 : lwG (.methodLink RL 161 yJ4_toString_0e30d) := ⟨lwT5 (List.mem_of_getElem? (i := 150) rfl), good_of_word rfl⟩
theorem tw978 : lwG (.code yJ4_toString_0e30d cJ4_toString_0e30d 1 (some (.object "java/lang/String"))) := ⟨lwT2 (List.mem_of_getElem? (i := 65) rfl), good_of_word rfl⟩
theorem tw979 : lwG (.methodLink RJ0 549 ⟨"java/lang/AbstractStringBuilder", "length", "()I"⟩) := ⟨lwT2 (List.mem_of_getElem? (i := 80) rfl), good_of_word rfl⟩
theorem tw980 : lwG (.code yJ5_getValue_6d5f1 cJ5_getValue_6d5f1 1 (some (.array .byte))) := ⟨lwT2 (List.mem_of_getElem? (i := 79) rfl), good_of_word rfl⟩
theorem tw981 : lwG (.instanceMethod yJ5_getValue_6d5f1) := ⟨lwT2 (List.mem_of_getElem? (i := 76) rfl), good_of_word rfl⟩
theorem tw982 : lwG (.selects RJ4 ⟨"java/lang/AbstractStringBuilder", "getValue", "()[B"⟩ yJ5_getValue_6d5f1) := ⟨lwT2 (List.mem_of_getElem? (i := 78) rfl), good_of_word rfl⟩
theorem tw983 : lwG (.sameMethod "java/lang/AbstractStringBuilder" "java/lang/AbstractStringBuilder" "getValue" "()[B") := ⟨lwT2 (List.mem_of_getElem? (i := 77) rfl), good_of_word rfl⟩
theorem tw984 : lwG (.methodLink RJ0 552 ⟨"java/lang/AbstractStringBuilder", "getValue", "()[B"⟩) := ⟨lwT2 (List.mem_of_getElem? (i := 75) rfl), good_of_word rfl⟩
theorem tw985 : lwG (.fieldLink RJ0 1048 "java/lang/AbstractStringBuilder" "maybeLatin1" "Z") := ⟨lwT1 (List.mem_of_getElem? (i := 146) rfl), good_of_word rfl⟩
theorem tw986 : lwG (.methodLink RJ0 1 objectInit) := ⟨lwT2 (List.mem_of_getElem? (i := 74) rfl), good_of_word rfl⟩
theorem tw987 : lwG (.code yJ0_init_db425 cJ0_init_db425 5 none) := ⟨lwT2 (List.mem_of_getElem? (i := 73) rfl), good_of_word rfl⟩
theorem tw988 : lwG (.instanceMethod yJ0_init_db425) := ⟨lwT2 (List.mem_of_getElem? (i := 72) rfl), good_of_word rfl⟩
theorem tw989 : lwG (.methodLink RJ0 489 yJ0_init_db425) := ⟨lwT2 (List.mem_of_getElem? (i := 71) rfl), good_of_word rfl⟩
theorem tw990 : lwG (.code yJ0_init_81219 cJ0_init_81219 2 none) := ⟨lwT2 (List.mem_of_getElem? (i := 70) rfl), good_of_word rfl⟩
theorem tw991 : lwG (.instanceMethod yJ0_init_81219) := ⟨lwT2 (List.mem_of_getElem? (i := 69) rfl), good_of_word rfl⟩
theorem tw992 : lwG (.methodLink RJ4 137 yJ0_init_81219) := ⟨lwT2 (List.mem_of_getElem? (i := 68) rfl), good_of_word rfl⟩
theorem tw993 : lwG (.instantiable RJ0 4) := ⟨lwT2 (List.mem_of_getElem? (i := 67) rfl), good_of_word rfl⟩
theorem tw994 : lwG (.classLink RJ4 18 RJ0) := ⟨lwT2 (List.mem_of_getElem? (i := 66) rfl), good_of_word rfl⟩
theorem tw995 : lwG (.code yJ7_copyOfRange_39247 cJ7_copyOfRange_39247 3 (some (.array .byte))) := ⟨lwT2 (List.mem_of_getElem? (i := 91) rfl), good_of_word rfl⟩
theorem tw996 : lwG (.static yJ7_copyOfRange_39247) := ⟨lwT2 (List.mem_of_getElem? (i := 90) rfl), good_of_word rfl⟩
theorem tw997 : lwG (.methodLink RJ0 54 yJ7_copyOfRange_39247) := ⟨lwT2 (List.mem_of_getElem? (i := 89) rfl), good_of_word rfl⟩
theorem tw998 : lwG (.methodLink RJ0 1047 ⟨"java/lang/AbstractStringBuilder", "isLatin1", "()Z"⟩) := ⟨lwT2 (List.mem_of_getElem? (i := 88) rfl), good_of_word rfl⟩
theorem tw999 : lwG (.selects RJ4 ⟨"java/lang/AbstractStringBuilder", "length", "()I"⟩ yJ4_length_8abf5) := ⟨lwT2 (List.mem_of_getElem? (i := 83) rfl), good_of_word rfl⟩
theorem tw1000 : lwG (.instanceMethod ⟨"java/lang/AbstractStringBuilder", "length", "()I"⟩) := ⟨lwT2 (List.mem_of_getElem? (i := 81) rfl), good_of_word rfl⟩
theorem tw1001 : lwG (.static yJ2_compress_39247) := ⟨lwT2 (List.mem_of_getElem? (i := 120) rfl), good_of_word rfl⟩
theorem tw1002 : lwG (.methodLink RJ0 1051 yJ2_compress_39247) := ⟨lwT2 (List.mem_of_getElem? (i := 119) rfl), good_of_word rfl⟩
theorem tw1003 : lwG (.code yJ7_checkLength_df160 cJ7_checkLength_df160 2 none) := ⟨lwT2 (List.mem_of_getElem? (i := 97) rfl), good_of_word rfl⟩
theorem tw1004 : lwG (.static yJ7_checkLength_df160) := ⟨lwT2 (List.mem_of_getElem? (i := 96) rfl), good_of_word rfl⟩
theorem tw1005 : lwG (.methodLink RJ7 343 yJ7_checkLength_df160) := ⟨lwT2 (List.mem_of_getElem? (i := 95) rfl), good_of_word rfl⟩
theorem tw1006 : lwG (.code yJ7_copyOfRangeByte_39247 cJ7_copyOfRangeByte_39247 5 (some (.array .byte))) := ⟨lwT2 (List.mem_of_getElem? (i := 94) rfl), good_of_word rfl⟩
theorem tw1007 : lwG (.static yJ7_copyOfRangeByte_39247) := ⟨lwT2 (List.mem_of_getElem? (i := 93) rfl), good_of_word rfl⟩
theorem tw1008 : lwG (.methodLink RJ7 339 yJ7_copyOfRangeByte_39247) := ⟨lwT2 (List.mem_of_getElem? (i := 92) rfl), good_of_word rfl⟩
theorem tw1009 : lwG (.code yJ2_compress_5af95 cJ2_compress_5af95 7 (some .int)) := ⟨lwT2 (List.mem_of_getElem? (i := 124) rfl), good_of_word rfl⟩
theorem tw1010 : lwG (.static yJ2_compress_5af95) := ⟨lwT2 (List.mem_of_getElem? (i := 123) rfl), good_of_word rfl⟩
theorem tw1011 : lwG (.methodLink RJ2 123 yJ2_compress_5af95) := ⟨lwT2 (List.mem_of_getElem? (i := 122) rfl), good_of_word rfl⟩
theorem tw1012 : lwG (.code yJ2_compress_39247 cJ2_compress_39247 6 (some (.array .byte))) := ⟨lwT2 (List.mem_of_getElem? (i := 121) rfl), good_of_word rfl⟩
theorem tw1013 : lwG (.code yJ2_coderFromArrayLen_85cad cJ2_coderFromArrayLen_85cad 2 (some .byte)) := ⟨lwT2 (List.mem_of_getElem? (i := 131) rfl), good_of_word rfl⟩
theorem tw1014 : lwG (.static yJ2_coderFromArrayLen_85cad) := ⟨lwT2 (List.mem_of_getElem? (i := 130) rfl), good_of_word rfl⟩
theorem tw1015 : lwG (.methodLink RJ0 47 yJ2_coderFromArrayLen_85cad) := ⟨lwT2 (List.mem_of_getElem? (i := 129) rfl), good_of_word rfl⟩
theorem tw1016 : lwG (.methodLink RJ2 126 yJ7_copyOfRange_39247) := ⟨lwT2 (List.mem_of_getElem? (i := 128) rfl), good_of_word rfl⟩
theorem tw1017 : lwG (.static yL_does) := ⟨lwT5 (List.mem_of_getElem? (i := 156) rfl), good_of_word rfl⟩
theorem tw1018 : lwG (.methodLink RL 173 yL_does) := ⟨lwT5 (List.mem_of_getElem? (i := 155) rfl), good_of_word rfl⟩
theorem tw1019 : lwG (.code yL_does cL_does 4 (some .int)) := ⟨lwT5 (List.mem_of_getElem? (i := 157) rfl), good_of_word rfl⟩
theorem tw1020 : lwG (.static yL_begun) := ⟨lwT4 (List.mem_of_getElem? (i := 72) rfl), good_of_word rfl⟩
theorem tw1021 : lwG (.methodLink RL 272 yL_begun) := ⟨lwT4 (List.mem_of_getElem? (i := 71) rfl), good_of_word rfl⟩
theorem tw1022 : lwG (.code yL_begun cL_begun 5 (some (.object "SnowDispatcher"))) := ⟨lwT4 (List.mem_of_getElem? (i := 73) rfl), good_of_word rfl⟩
theorem tw1023 : lwG (.static yL_isWell) := ⟨lwT6 (List.mem_of_getElem? (i := 121) rfl), good_of_word rfl⟩
theorem tw1024 : lwG (.methodLink RL 276 yL_isWell) := ⟨lwT6 (List.mem_of_getElem? (i := 120) rfl), good_of_word rfl⟩
theorem tw1025 : lwG (.code yL_isWell cL_isWell 8 (some .boolean)) := ⟨lwT6 (List.mem_of_getElem? (i := 122) rfl), good_of_word rfl⟩
theorem tw1026 : lwG (.static yL_seen) := ⟨lwT6 (List.mem_of_getElem? (i := 19) rfl), good_of_word rfl⟩
theorem tw1027 : lwG (.methodLink RL 280 yL_seen) := ⟨lwT6 (List.mem_of_getElem? (i := 18) rfl), good_of_word rfl⟩
theorem tw1028 : lwG (.code yL_seen cL_seen 5 (some (.array .int))) := ⟨lwT6 (List.mem_of_getElem? (i := 20) rfl), good_of_word rfl⟩
theorem tw1029 : lwG (.selects RX6 yX6_save yX6_save) := ⟨lwT2 (List.mem_of_getElem? (i := 237) rfl), good_of_word rfl⟩
theorem tw1030 : lwG (.instanceMethod yX6_save) := ⟨lwT2 (List.mem_of_getElem? (i := 236) rfl), good_of_word rfl⟩
theorem tw1031 : lwG (.methodLink RL 295 yX6_save) := ⟨lwT2 (List.mem_of_getElem? (i := 235) rfl), good_of_word rfl⟩
theorem tw1032 : lwG (.code yX6_save cX6_save 1 (some .int)) := ⟨lwT2 (List.mem_of_getElem? (i := 238) rfl), good_of_word rfl⟩
theorem tw1033 : lwG (.static yL_minutesUntilCleared) := ⟨lwT4 (List.mem_of_getElem? (i := 14) rfl), good_of_word rfl⟩
theorem tw1034 : lwG (.methodLink RL 298 yL_minutesUntilCleared) := ⟨lwT4 (List.mem_of_getElem? (i := 13) rfl), good_of_word rfl⟩
theorem tw1035 : lwG (.codeWith yL_minutesUntilCleared cL_minutesUntilCleared 3 (some .int) [(0, 5, 6, 15), (0, 5, 10, 35)]) := ⟨lwT4 (List.mem_of_getElem? (i := 15) rfl), good_of_word rfl⟩
theorem tw1036 : lwG (.static yL_streetByUrgency) := ⟨lwT3 (List.mem_of_getElem? (i := 217) rfl), good_of_word rfl⟩
theorem tw1037 : lwG (.methodLink RL 300 yL_streetByUrgency) := ⟨lwT3 (List.mem_of_getElem? (i := 216) rfl), good_of_word rfl⟩
theorem tw1038 : lwG (.codeWith yL_streetByUrgency cL_streetByUrgency 3 (some .int) [(0, 5, 6, 35)]) := ⟨lwT3 (List.mem_of_getElem? (i := 218) rfl), good_of_word rfl⟩
theorem tw1039 : lwG (.selects RX6 yX6_renderStreet yX6_renderStreet) := ⟨lwT1 (List.mem_of_getElem? (i := 32) rfl), good_of_word rfl⟩
theorem tw1040 : lwG (.instanceMethod yX6_renderStreet) := ⟨lwT1 (List.mem_of_getElem? (i := 31) rfl), good_of_word rfl⟩
theorem tw1041 : lwG (.methodLink RL 302 yX6_renderStreet) := ⟨lwT1 (List.mem_of_getElem? (i := 30) rfl), good_of_word rfl⟩
theorem tw1042 : lwG (.code yX6_renderStreet cX6_renderStreet 3 (some .int)) := ⟨lwT1 (List.mem_of_getElem? (i := 33) rfl), good_of_word rfl⟩
theorem tw1043 : lwG (.methodLink RX6 309 yJ4_append_bf812) := ⟨lwT2 (List.mem_of_getElem? (i := 190) rfl), good_of_word rfl⟩
theorem tw1044 : lwG (.methodLink RX6 318 yJ4_append_15ec4) := ⟨lwT2 (List.mem_of_getElem? (i := 214) rfl), good_of_word rfl⟩
theorem tw1045 : lwG (.selects RX6 yX6_renderQueue yX6_renderQueue) := ⟨lwT2 (List.mem_of_getElem? (i := 223) rfl), good_of_word rfl⟩
theorem tw1046 : lwG (.instanceMethod yX6_renderQueue) := ⟨lwT2 (List.mem_of_getElem? (i := 222) rfl), good_of_word rfl⟩
theorem tw1047 : lwG (.methodLink RL 305 yX6_renderQueue) := ⟨lwT2 (List.mem_of_getElem? (i := 221) rfl), good_of_word rfl⟩
theorem tw1048 : lwG (.code yX6_renderQueue cX6_renderQueue 4 (some .int)) := ⟨lwT2 (List.mem_of_getElem? (i := 224) rfl), good_of_word rfl⟩
theorem tw1049 : lwG (.static yL_areAlike) := ⟨lwT6 (List.mem_of_getElem? (i := 118) rfl), good_of_word rfl⟩
theorem tw1050 : lwG (.methodLink RL 289 yL_areAlike) := ⟨lwT6 (List.mem_of_getElem? (i := 117) rfl), good_of_word rfl⟩
theorem tw1051 : lwG (.code yL_areAlike cL_areAlike 3 (some .boolean)) := ⟨lwT6 (List.mem_of_getElem? (i := 119) rfl), good_of_word rfl⟩
theorem tw1052 : lwG (.static yL_restore) := ⟨lwT4 (List.mem_of_getElem? (i := 55) rfl), good_of_word rfl⟩
theorem tw1053 : lwG (.methodLink RL 308 yL_restore) := ⟨lwT4 (List.mem_of_getElem? (i := 54) rfl), good_of_word rfl⟩
theorem tw1054 : lwG (.codeWith yL_restore cL_restore 2 (some .int) [(0, 4, 5, 21)]) := ⟨lwT4 (List.mem_of_getElem? (i := 56) rfl), good_of_word rfl⟩
theorem tw1055 : lwG (.static yL_undo) := ⟨lwT4 (List.mem_of_getElem? (i := 39) rfl), good_of_word rfl⟩
theorem tw1056 : lwG (.methodLink RL 293 yL_undo) := ⟨lwT4 (List.mem_of_getElem? (i := 38) rfl), good_of_word rfl⟩
theorem tw1057 : lwG (.codeWith yL_undo cL_undo 2 (some .int) [(0, 4, 5, 35)]) := ⟨lwT4 (List.mem_of_getElem? (i := 40) rfl), good_of_word rfl⟩
theorem tw1058 : lwG (.static yL_acts) := ⟨lwT5 (List.mem_of_getElem? (i := 125) rfl), good_of_word rfl⟩
theorem tw1059 : lwG (.methodLink RL 284 yL_acts) := ⟨lwT5 (List.mem_of_getElem? (i := 124) rfl), good_of_word rfl⟩
theorem tw1060 : lwG (.code yL_acts cL_acts 6 (some .int)) := ⟨lwT5 (List.mem_of_getElem? (i := 126) rfl), good_of_word rfl⟩
theorem tw1061 : lwG (.constant RL 288 (-900000)) := ⟨lwT6 (List.mem_of_getElem? (i := 206) rfl), good_of_word rfl⟩
