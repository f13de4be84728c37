/-! the tables' words by their places: by program (wip/p56/gen/words56.py) -/
theorem lw_sel {C : String} {y y2 : MethodName} {s : State} {args : Array Value} {n : Nat} (hc2 : y2.cls = y.cls) (hy : y.cls ≠ "java/lang/invoke/MethodHandle" ∧ y.cls ≠ "java/lang/invoke/VarHandle") (hy2 : y2.cls ≠ "java/lang/invoke/MethodHandle" ∧ y2.cls ≠ "java/lang/invoke/VarHandle")
    (hins : (Cond.instantiable C n).before args s = true) (hpriv : (Cond.privateMethod y).before args s = true) (hinst : (Cond.instanceMethod y).before args s = true) (hsel2 : (Cond.selects C y2 y2).before args s = true) (hinst2 : (Cond.instanceMethod y2).before args s = true) :
    (Cond.selects C y y).before args s = true := by
  obtain ⟨c, k, hc, hk, -, hniab, -, -⟩ := Cond.instantiable_spec hins
  obtain ⟨mk, methM, hnamed, hmethM, -, -⟩ := Cond.instanceMethod_spec hinst
  obtain ⟨c2, r2, m2, q1, q2, q3, q4, kP, hkP, hkPi⟩ := Cond.selects_spec hsel2
  obtain ⟨mk2, methM2, hnamed2, hmethM2, -, -⟩ := Cond.instanceMethod_spec hinst2
  have hf2 := State.methodFound?_of_named hnamed2 hy2
  have e3 : mk2 = m2 := Option.some.inj (hnamed2.symm.trans q3)
  rw [← e3] at hkP
  have e1 := findClass_of_methodNamed hnamed2
  have e2 := findClass_of_methodNamed hnamed
  rw [hc2] at e1
  have e : mk.cls = mk2.cls := Option.some.inj (e2.symm.trans e1)
  have hfound : s.methodFound? y.cls y.name y.desc = some mk := State.methodFound?_of_named hnamed hy
  have hsel : selectMethod {} s.vm c mk = .method mk := selectMethod_private hmethM (Cond.privateMethod_at hpriv mk methM hnamed hmethM)
  simp only [Cond.before, Cond.holds, Cond.value, hc, hfound, hnamed, hsel, hk]
  simp
  rw [e, hkP]
  simp [hkPi]
def lw_news : List Cond := [.selects RJ4 ⟨"java/lang/AbstractStringBuilder", "ensureCapacityInternal", "(I)V"⟩ yJ5_ensureCapacityInternal_d00df, .selects RJ4 ⟨"java/lang/AbstractStringBuilder", "newCapacity", "(I)I"⟩ yJ5_newCapacity_0f7a4]
def lw_tbl2 : List Cond := lw_news ++ lw_tbl
theorem lw_hts2 {args : Array Value} {s : State} (hts : ∀ w ∈ lw_tbl, w.before args s = true) : ∀ w ∈ lw_tbl2, w.before args s = true := by
  intro w hw
  rcases List.mem_append.mp hw with hw | hw
  · simp only [lw_news, List.mem_cons, List.not_mem_nil, or_false] at hw
    rcases hw with rfl | rfl
    · exact lw_sel (C := RJ4) (y := yJ5_ensureCapacityInternal_d00df) (y2 := ⟨"java/lang/AbstractStringBuilder", "isLatin1", "()Z"⟩) (n := 4) rfl ⟨by decide +kernel, by decide +kernel⟩ ⟨by decide +kernel, by decide +kernel⟩ (hts _ (List.mem_append_right _ (List.mem_append_left _ (List.mem_of_getElem? (i := 126) rfl)))) (hts _ (List.mem_append_right _ (List.mem_append_left _ (List.mem_of_getElem? (i := 169) rfl)))) (hts _ (List.mem_append_right _ (List.mem_append_left _ (List.mem_of_getElem? (i := 170) rfl)))) (hts _ (List.mem_append_right _ (List.mem_append_left _ (List.mem_of_getElem? (i := 206) rfl)))) (hts _ (List.mem_append_right _ (List.mem_append_left _ (List.mem_of_getElem? (i := 204) rfl))))
    · exact lw_sel (C := RJ4) (y := yJ5_newCapacity_0f7a4) (y2 := ⟨"java/lang/AbstractStringBuilder", "isLatin1", "()Z"⟩) (n := 4) rfl ⟨by decide +kernel, by decide +kernel⟩ ⟨by decide +kernel, by decide +kernel⟩ (hts _ (List.mem_append_right _ (List.mem_append_left _ (List.mem_of_getElem? (i := 126) rfl)))) (hts _ (List.mem_append_right _ (List.mem_append_left _ (List.mem_of_getElem? (i := 173) rfl)))) (hts _ (List.mem_append_right _ (List.mem_append_left _ (List.mem_of_getElem? (i := 174) rfl)))) (hts _ (List.mem_append_right _ (List.mem_append_left _ (List.mem_of_getElem? (i := 206) rfl)))) (hts _ (List.mem_append_right _ (List.mem_append_left _ (List.mem_of_getElem? (i := 204) rfl))))
  · exact hts w hw
abbrev lwG (w : Cond) : Prop := w ∈ lw_tbl2 ∧ ((w.onTables && w.keeps) = true ∨ ∃ ty, w = .arrayClass ty)
theorem goodIn_nil {big : List Cond} : GoodIn big [] := fun _ h => absurd h List.not_mem_nil
theorem goodIn_c1 {w : Cond} {a : List Cond} (h : lwG w) (ha : GoodIn lw_tbl2 a) : GoodIn lw_tbl2 (w :: a) := fun v hv => (List.mem_cons.mp hv).elim (fun e => e ▸ h) (ha v)
theorem lwT0 {w : Cond} (h : w ∈ k2_sels lw_privs) : w ∈ lw_tbl2 := List.mem_append_right _ (List.mem_append_left _ h)
theorem lwT1 {w : Cond} (h : w ∈ tables_1_1) : w ∈ lw_tbl2 := List.mem_append_right _ (List.mem_append_right _ (List.mem_append_left _ h))
theorem lwT2 {w : Cond} (h : w ∈ tables_1_2) : w ∈ lw_tbl2 := List.mem_append_right _ (List.mem_append_right _ (List.mem_append_right _ (List.mem_append_left _ h)))
theorem lwT3 {w : Cond} (h : w ∈ tables_1_3) : w ∈ lw_tbl2 := List.mem_append_right _ (List.mem_append_right _ (List.mem_append_right _ (List.mem_append_right _ (List.mem_append_left _ h))))
theorem lwT4 {w : Cond} (h : w ∈ tables_1_4) : w ∈ lw_tbl2 := List.mem_append_right _ (List.mem_append_right _ (List.mem_append_right _ (List.mem_append_right _ (List.mem_append_right _ (List.mem_append_left _ h)))))
theorem lwT5 {w : Cond} (h : w ∈ tables_1_5) : w ∈ lw_tbl2 := List.mem_append_right _ (List.mem_append_right _ (List.mem_append_right _ (List.mem_append_right _ (List.mem_append_right _ (List.mem_append_right _ (List.mem_append_left _ h))))))
theorem lwT6 {w : Cond} (h : w ∈ tables_1_6) : w ∈ lw_tbl2 := List.mem_append_right _ (List.mem_append_right _ (List.mem_append_right _ (List.mem_append_right _ (List.mem_append_right _ (List.mem_append_right _ (List.mem_append_right _ (h)))))))
theorem tw0 : lwG (.initialized RX6) := ⟨lwT1 (List.mem_of_getElem? (i := 1) rfl), good_of_word rfl⟩
theorem tw1 : lwG (.selects RX6 yX6_addStreet yX6_addStreet) := ⟨lwT5 (List.mem_of_getElem? (i := 69) rfl), good_of_word rfl⟩
theorem tw2 : lwG (.instanceMethod yX6_addStreet) := ⟨lwT5 (List.mem_of_getElem? (i := 68) rfl), good_of_word rfl⟩
theorem tw3 : lwG (.methodLink RL 9 yX6_addStreet) := ⟨lwT5 (List.mem_of_getElem? (i := 67) rfl), good_of_word rfl⟩
theorem tw4 : lwG (.code yX6_addStreet cX6_addStreet 6 (some .int)) := ⟨lwT5 (List.mem_of_getElem? (i := 70) rfl), good_of_word rfl⟩
theorem tw5 : lwG (.code yX5_copyFrom cX5_copyFrom 2 none) := ⟨lwT3 (List.mem_of_getElem? (i := 2) rfl), good_of_word rfl⟩
theorem tw6 : lwG (.initialized RX5) := ⟨lwT1 (List.mem_of_getElem? (i := 3) rfl), good_of_word rfl⟩
theorem tw7 : lwG (.selects RX5 yX5_copyFrom yX5_copyFrom) := ⟨lwT3 (List.mem_of_getElem? (i := 1) rfl), good_of_word rfl⟩
theorem tw8 : lwG (.instanceMethod yX5_copyFrom) := ⟨lwT3 (List.mem_of_getElem? (i := 0) rfl), good_of_word rfl⟩
theorem tw9 : lwG (.methodLink RX0 24 yX5_copyFrom) := ⟨lwT3 (List.mem_of_getElem? (i := 33) rfl), good_of_word rfl⟩
theorem tw10 : lwG (.fieldLink RX0 13 "SnowDispatcher$History" "ring" "[LSnowDispatcher$Town;") := ⟨lwT4 (List.mem_of_getElem? (i := 236) rfl), good_of_word rfl⟩
theorem tw11 : lwG (.fieldLink RX0 28 "SnowDispatcher$History" "free" "I") := ⟨lwT4 (List.mem_of_getElem? (i := 237) rfl), good_of_word rfl⟩
theorem tw12 : lwG (.code yX0_freePlace cX0_freePlace 1 (some (.object "SnowDispatcher$Town"))) := ⟨lwT3 (List.mem_of_getElem? (i := 32) rfl), good_of_word rfl⟩
theorem tw13 : lwG (.selects RX0 yX0_freePlace yX0_freePlace) := ⟨lwT0 (List.mem_of_getElem? (i := 1) rfl), good_of_word rfl⟩
theorem tw14 : lwG (.instanceMethod yX0_freePlace) := ⟨lwT3 (List.mem_of_getElem? (i := 30) rfl), good_of_word rfl⟩
theorem tw15 : lwG (.methodLink RX0 20 yX0_freePlace) := ⟨lwT3 (List.mem_of_getElem? (i := 28) rfl), good_of_word rfl⟩
theorem tw16 : lwG (.code yX0_write cX0_write 3 none) := ⟨lwT3 (List.mem_of_getElem? (i := 27) rfl), good_of_word rfl⟩
theorem tw17 : lwG (.initialized RX0) := ⟨lwT1 (List.mem_of_getElem? (i := 6) rfl), good_of_word rfl⟩
theorem tw18 : lwG (.selects RX0 yX0_write yX0_write) := ⟨lwT3 (List.mem_of_getElem? (i := 26) rfl), good_of_word rfl⟩
theorem tw19 : lwG (.instanceMethod yX0_write) := ⟨lwT3 (List.mem_of_getElem? (i := 25) rfl), good_of_word rfl⟩
theorem tw20 : lwG (.methodLink RX6 63 yX0_write) := ⟨lwT3 (List.mem_of_getElem? (i := 24) rfl), good_of_word rfl⟩
theorem tw21 : lwG (.fieldLink RX6 21 "SnowDispatcher" "town" "LSnowDispatcher$Town;") := ⟨lwT5 (List.mem_of_getElem? (i := 34) rfl), good_of_word rfl⟩
theorem tw22 : lwG (.fieldLink RX6 34 "SnowDispatcher" "history" "LSnowDispatcher$History;") := ⟨lwT5 (List.mem_of_getElem? (i := 37) rfl), good_of_word rfl⟩
theorem tw23 : lwG (.initialized "java/lang/IllegalStateException") := ⟨lwT1 (List.mem_of_getElem? (i := 20) rfl), good_of_word rfl⟩
theorem tw24 : lwG (.classLink RX6 83 "java/lang/IllegalStateException") := ⟨lwT3 (List.mem_of_getElem? (i := 44) rfl), good_of_word rfl⟩
theorem tw25 : lwG (.initialized "java/lang/IllegalArgumentException") := ⟨lwT1 (List.mem_of_getElem? (i := 19) rfl), good_of_word rfl⟩
theorem tw26 : lwG (.classLink RX6 78 "java/lang/IllegalArgumentException") := ⟨lwT3 (List.mem_of_getElem? (i := 80) rfl), good_of_word rfl⟩
theorem tw27 : lwG (.initialized "java/lang/IndexOutOfBoundsException") := ⟨lwT1 (List.mem_of_getElem? (i := 15) rfl), good_of_word rfl⟩
theorem tw28 : lwG (.classLink RX6 71 "java/lang/IndexOutOfBoundsException") := ⟨lwT1 (List.mem_of_getElem? (i := 38) rfl), good_of_word rfl⟩
theorem tw29 : lwG (.fieldLink RX4 25 "SnowDispatcher$Streets" "snow" "[I") := ⟨lwT4 (List.mem_of_getElem? (i := 120) rfl), good_of_word rfl⟩
theorem tw30 : lwG (.fieldLink RX4 22 "SnowDispatcher$Streets" "size" "[I") := ⟨lwT4 (List.mem_of_getElem? (i := 116) rfl), good_of_word rfl⟩
theorem tw31 : lwG (.fieldLink RX4 18 "SnowDispatcher$Streets" "kind" "[C") := ⟨lwT4 (List.mem_of_getElem? (i := 114) rfl), good_of_word rfl⟩
theorem tw32 : lwG (.fieldLink RX4 15 "SnowDispatcher$Streets" "higher" "[I") := ⟨lwT4 (List.mem_of_getElem? (i := 110) rfl), good_of_word rfl⟩
theorem tw33 : lwG (.initialized "java/lang/System") := ⟨lwT1 (List.mem_of_getElem? (i := 17) rfl), good_of_word rfl⟩
theorem tw34 : lwG (.static arraycopyName) := ⟨lwT1 (List.mem_of_getElem? (i := 201) rfl), good_of_word rfl⟩
theorem tw35 : lwG (.native arraycopyName) := ⟨lwT1 (List.mem_of_getElem? (i := 202) rfl), good_of_word rfl⟩
theorem tw36 : lwG (.methodLink RX4 41 arraycopyName) := ⟨lwT3 (List.mem_of_getElem? (i := 7) rfl), good_of_word rfl⟩
theorem tw37 : lwG (.fieldLink RX4 9 "SnowDispatcher$Streets" "lower" "[I") := ⟨lwT4 (List.mem_of_getElem? (i := 106) rfl), good_of_word rfl⟩
theorem tw38 : lwG (.code yX4_copyFrom cX4_copyFrom 2 none) := ⟨lwT3 (List.mem_of_getElem? (i := 6) rfl), good_of_word rfl⟩
theorem tw39 : lwG (.initialized RX4) := ⟨lwT1 (List.mem_of_getElem? (i := 4) rfl), good_of_word rfl⟩
theorem tw40 : lwG (.selects RX4 yX4_copyFrom yX4_copyFrom) := ⟨lwT3 (List.mem_of_getElem? (i := 5) rfl), good_of_word rfl⟩
theorem tw41 : lwG (.instanceMethod yX4_copyFrom) := ⟨lwT3 (List.mem_of_getElem? (i := 4) rfl), good_of_word rfl⟩
theorem tw42 : lwG (.methodLink RX5 29 yX4_copyFrom) := ⟨lwT3 (List.mem_of_getElem? (i := 3) rfl), good_of_word rfl⟩
theorem tw43 : lwG (.fieldLink RX5 58 "SnowDispatcher$Town" "complained" "I") := ⟨lwT4 (List.mem_of_getElem? (i := 203) rfl), good_of_word rfl⟩
theorem tw44 : lwG (.fieldLink RX5 55 "SnowDispatcher$Town" "failed" "I") := ⟨lwT4 (List.mem_of_getElem? (i := 201) rfl), good_of_word rfl⟩
theorem tw45 : lwG (.fieldLink RX5 52 "SnowDispatcher$Town" "ploughed" "I") := ⟨lwT4 (List.mem_of_getElem? (i := 199) rfl), good_of_word rfl⟩
theorem tw46 : lwG (.fieldLink RX5 49 "SnowDispatcher$Town" "cleared" "I") := ⟨lwT4 (List.mem_of_getElem? (i := 197) rfl), good_of_word rfl⟩
theorem tw47 : lwG (.fieldLink RX5 46 "SnowDispatcher$Town" "force" "I") := ⟨lwT4 (List.mem_of_getElem? (i := 195) rfl), good_of_word rfl⟩
theorem tw48 : lwG (.fieldLink RX5 43 "SnowDispatcher$Town" "rate" "I") := ⟨lwT4 (List.mem_of_getElem? (i := 193) rfl), good_of_word rfl⟩
theorem tw49 : lwG (.fieldLink RX5 40 "SnowDispatcher$Town" "store" "I") := ⟨lwT4 (List.mem_of_getElem? (i := 191) rfl), good_of_word rfl⟩
theorem tw50 : lwG (.fieldLink RX5 36 "SnowDispatcher$Town" "time" "I") := ⟨lwT4 (List.mem_of_getElem? (i := 189) rfl), good_of_word rfl⟩
theorem tw51 : lwG (.fieldLink RX5 25 "SnowDispatcher$Town" "ploughs" "LSnowDispatcher$Ploughs;") := ⟨lwT4 (List.mem_of_getElem? (i := 187) rfl), good_of_word rfl⟩
theorem tw52 : lwG (.fieldLink RX5 18 "SnowDispatcher$Town" "streets" "LSnowDispatcher$Streets;") := ⟨lwT4 (List.mem_of_getElem? (i := 185) rfl), good_of_word rfl⟩
theorem tw53 : lwG (.code Lib.Math.min.name Lib.Math.min.code 2 (some .int)) := ⟨lwT1 (List.mem_of_getElem? (i := 199) rfl), good_of_word rfl⟩
theorem tw54 : lwG (.initialized "java/lang/Math") := ⟨lwT1 (List.mem_of_getElem? (i := 18) rfl), good_of_word rfl⟩
theorem tw55 : lwG (.static Lib.Math.min.name) := ⟨lwT1 (List.mem_of_getElem? (i := 198) rfl), good_of_word rfl⟩
theorem tw56 : lwG (.methodLink RX5 65 Lib.Math.min.name) := ⟨lwT3 (List.mem_of_getElem? (i := 176) rfl), good_of_word rfl⟩
theorem tw57 : lwG (.code yX5_putStreet cX5_putStreet 7 (some .int)) := ⟨lwT5 (List.mem_of_getElem? (i := 74) rfl), good_of_word rfl⟩
theorem tw58 : lwG (.selects RX5 yX5_putStreet yX5_putStreet) := ⟨lwT5 (List.mem_of_getElem? (i := 73) rfl), good_of_word rfl⟩
theorem tw59 : lwG (.instanceMethod yX5_putStreet) := ⟨lwT5 (List.mem_of_getElem? (i := 72) rfl), good_of_word rfl⟩
theorem tw60 : lwG (.methodLink RX6 67 yX5_putStreet) := ⟨lwT5 (List.mem_of_getElem? (i := 71) rfl), good_of_word rfl⟩
theorem tw61 : lwG (.fieldLink RX2 27 "SnowDispatcher$Ploughs" "count" "I") := ⟨lwT4 (List.mem_of_getElem? (i := 168) rfl), good_of_word rfl⟩
theorem tw62 : lwG (.fieldLink RX2 24 "SnowDispatcher$Ploughs" "orders" "[I") := ⟨lwT4 (List.mem_of_getElem? (i := 167) rfl), good_of_word rfl⟩
theorem tw63 : lwG (.fieldLink RX2 21 "SnowDispatcher$Ploughs" "waiting" "[I") := ⟨lwT4 (List.mem_of_getElem? (i := 165) rfl), good_of_word rfl⟩
theorem tw64 : lwG (.fieldLink RX2 18 "SnowDispatcher$Ploughs" "minutesLeft" "[I") := ⟨lwT4 (List.mem_of_getElem? (i := 163) rfl), good_of_word rfl⟩
theorem tw65 : lwG (.fieldLink RX2 15 "SnowDispatcher$Ploughs" "target" "[I") := ⟨lwT4 (List.mem_of_getElem? (i := 161) rfl), good_of_word rfl⟩
theorem tw66 : lwG (.methodLink RX2 31 arraycopyName) := ⟨lwT3 (List.mem_of_getElem? (i := 12) rfl), good_of_word rfl⟩
theorem tw67 : lwG (.fieldLink RX2 9 "SnowDispatcher$Ploughs" "place" "[I") := ⟨lwT4 (List.mem_of_getElem? (i := 158) rfl), good_of_word rfl⟩
theorem tw68 : lwG (.code yX2_copyFrom cX2_copyFrom 2 none) := ⟨lwT3 (List.mem_of_getElem? (i := 11) rfl), good_of_word rfl⟩
theorem tw69 : lwG (.initialized RX2) := ⟨lwT1 (List.mem_of_getElem? (i := 5) rfl), good_of_word rfl⟩
theorem tw70 : lwG (.selects RX2 yX2_copyFrom yX2_copyFrom) := ⟨lwT3 (List.mem_of_getElem? (i := 10) rfl), good_of_word rfl⟩
theorem tw71 : lwG (.instanceMethod yX2_copyFrom) := ⟨lwT3 (List.mem_of_getElem? (i := 9) rfl), good_of_word rfl⟩
theorem tw72 : lwG (.methodLink RX5 33 yX2_copyFrom) := ⟨lwT3 (List.mem_of_getElem? (i := 8) rfl), good_of_word rfl⟩
theorem tw73 : lwG (.fieldLink RX4 37 "SnowDispatcher$Streets" "count" "I") := ⟨lwT4 (List.mem_of_getElem? (i := 129) rfl), good_of_word rfl⟩
theorem tw74 : lwG (.fieldLink RX4 34 "SnowDispatcher$Streets" "clearings" "[I") := ⟨lwT4 (List.mem_of_getElem? (i := 127) rfl), good_of_word rfl⟩
theorem tw75 : lwG (.fieldLink RX4 31 "SnowDispatcher$Streets" "complained" "[I") := ⟨lwT4 (List.mem_of_getElem? (i := 125) rfl), good_of_word rfl⟩
theorem tw76 : lwG (.fieldLink RX4 28 "SnowDispatcher$Streets" "saltEnd" "[I") := ⟨lwT4 (List.mem_of_getElem? (i := 123) rfl), good_of_word rfl⟩
theorem tw77 : lwG (.methodLink RX0 35 Lib.Math.min.name) := ⟨lwT3 (List.mem_of_getElem? (i := 64) rfl), good_of_word rfl⟩
theorem tw78 : lwG (.fieldLink RX0 32 "SnowDispatcher$History" "count" "I") := ⟨lwT4 (List.mem_of_getElem? (i := 238) rfl), good_of_word rfl⟩
theorem tw79 : lwG (.code yX0_push cX0_push 1 none) := ⟨lwT3 (List.mem_of_getElem? (i := 63) rfl), good_of_word rfl⟩
theorem tw80 : lwG (.selects RX0 yX0_push yX0_push) := ⟨lwT3 (List.mem_of_getElem? (i := 62) rfl), good_of_word rfl⟩
theorem tw81 : lwG (.instanceMethod yX0_push) := ⟨lwT3 (List.mem_of_getElem? (i := 61) rfl), good_of_word rfl⟩
theorem tw82 : lwG (.methodLink RX6 88 yX0_push) := ⟨lwT3 (List.mem_of_getElem? (i := 60) rfl), good_of_word rfl⟩
theorem tw83 : lwG (.code yX4_put cX4_put 6 (some .int)) := ⟨lwT5 (List.mem_of_getElem? (i := 84) rfl), good_of_word rfl⟩
theorem tw84 : lwG (.selects RX4 yX4_put yX4_put) := ⟨lwT5 (List.mem_of_getElem? (i := 83) rfl), good_of_word rfl⟩
theorem tw85 : lwG (.instanceMethod yX4_put) := ⟨lwT5 (List.mem_of_getElem? (i := 82) rfl), good_of_word rfl⟩
theorem tw86 : lwG (.methodLink RX5 78 yX4_put) := ⟨lwT5 (List.mem_of_getElem? (i := 81) rfl), good_of_word rfl⟩
theorem tw87 : lwG (.code yX4_areConnected cX4_areConnected 4 (some .boolean)) := ⟨lwT5 (List.mem_of_getElem? (i := 80) rfl), good_of_word rfl⟩
theorem tw88 : lwG (.selects RX4 yX4_areConnected yX4_areConnected) := ⟨lwT5 (List.mem_of_getElem? (i := 79) rfl), good_of_word rfl⟩
theorem tw89 : lwG (.instanceMethod yX4_areConnected) := ⟨lwT5 (List.mem_of_getElem? (i := 78) rfl), good_of_word rfl⟩
theorem tw90 : lwG (.methodLink RX5 74 yX4_areConnected) := ⟨lwT5 (List.mem_of_getElem? (i := 77) rfl), good_of_word rfl⟩
theorem tw91 : lwG (.code yX6_isJunction cX6_isJunction 1 (some .boolean)) := ⟨lwT3 (List.mem_of_getElem? (i := 166) rfl), good_of_word rfl⟩
theorem tw92 : lwG (.static yX6_isJunction) := ⟨lwT3 (List.mem_of_getElem? (i := 165) rfl), good_of_word rfl⟩
theorem tw93 : lwG (.code Lib.Math.max.name Lib.Math.max.code 2 (some .int)) := ⟨lwT1 (List.mem_of_getElem? (i := 181) rfl), good_of_word rfl⟩
theorem tw94 : lwG (.static Lib.Math.max.name) := ⟨lwT1 (List.mem_of_getElem? (i := 180) rfl), good_of_word rfl⟩
theorem tw95 : lwG (.methodLink RX5 71 Lib.Math.max.name) := ⟨lwT5 (List.mem_of_getElem? (i := 76) rfl), good_of_word rfl⟩
theorem tw96 : lwG (.classLink RL 15 "java/lang/IndexOutOfBoundsException") := ⟨lwT3 (List.mem_of_getElem? (i := 16) rfl), good_of_word rfl⟩
theorem tw97 : lwG (.constant RL 17 (-900001)) := ⟨lwT3 (List.mem_of_getElem? (i := 65) rfl), good_of_word rfl⟩
theorem tw98 : lwG (.classLink RL 18 "java/lang/IllegalArgumentException") := ⟨lwT3 (List.mem_of_getElem? (i := 70) rfl), good_of_word rfl⟩
theorem tw99 : lwG (.constant RL 20 (-900002)) := ⟨lwT3 (List.mem_of_getElem? (i := 66) rfl), good_of_word rfl⟩
theorem tw100 : lwG (.classLink RL 21 "java/lang/IllegalStateException") := ⟨lwT3 (List.mem_of_getElem? (i := 19) rfl), good_of_word rfl⟩
theorem tw101 : lwG (.constant RL 23 (-900003)) := ⟨lwT5 (List.mem_of_getElem? (i := 88) rfl), good_of_word rfl⟩
theorem tw102 : lwG (.selects RX6 yX6_addPlough yX6_addPlough) := ⟨lwT5 (List.mem_of_getElem? (i := 94) rfl), good_of_word rfl⟩
theorem tw103 : lwG (.instanceMethod yX6_addPlough) := ⟨lwT5 (List.mem_of_getElem? (i := 93) rfl), good_of_word rfl⟩
theorem tw104 : lwG (.methodLink RL 24 yX6_addPlough) := ⟨lwT5 (List.mem_of_getElem? (i := 92) rfl), good_of_word rfl⟩
theorem tw105 : lwG (.code yX6_addPlough cX6_addPlough 3 (some .int)) := ⟨lwT5 (List.mem_of_getElem? (i := 95) rfl), good_of_word rfl⟩
theorem tw106 : lwG (.selects RX2 yX2_put yX2_put) := ⟨lwT5 (List.mem_of_getElem? (i := 102) rfl), good_of_word rfl⟩
theorem tw107 : lwG (.instanceMethod yX2_put) := ⟨lwT5 (List.mem_of_getElem? (i := 101) rfl), good_of_word rfl⟩
theorem tw108 : lwG (.methodLink RX5 82 yX2_put) := ⟨lwT5 (List.mem_of_getElem? (i := 100) rfl), good_of_word rfl⟩
theorem tw109 : lwG (.code yX5_putPlough cX5_putPlough 2 (some .int)) := ⟨lwT5 (List.mem_of_getElem? (i := 99) rfl), good_of_word rfl⟩
theorem tw110 : lwG (.selects RX5 yX5_putPlough yX5_putPlough) := ⟨lwT5 (List.mem_of_getElem? (i := 98) rfl), good_of_word rfl⟩
theorem tw111 : lwG (.instanceMethod yX5_putPlough) := ⟨lwT5 (List.mem_of_getElem? (i := 97) rfl), good_of_word rfl⟩
theorem tw112 : lwG (.methodLink RX6 91 yX5_putPlough) := ⟨lwT5 (List.mem_of_getElem? (i := 96) rfl), good_of_word rfl⟩
theorem tw113 : lwG (.code yX2_put cX2_put 3 (some .int)) := ⟨lwT5 (List.mem_of_getElem? (i := 103) rfl), good_of_word rfl⟩
theorem tw114 : lwG (.selects RX6 yX6_order yX6_order) := ⟨lwT3 (List.mem_of_getElem? (i := 22) rfl), good_of_word rfl⟩
theorem tw115 : lwG (.instanceMethod yX6_order) := ⟨lwT3 (List.mem_of_getElem? (i := 21) rfl), good_of_word rfl⟩
theorem tw116 : lwG (.methodLink RL 28 yX6_order) := ⟨lwT3 (List.mem_of_getElem? (i := 20) rfl), good_of_word rfl⟩
theorem tw117 : lwG (.code yX6_order cX6_order 4 (some .int)) := ⟨lwT3 (List.mem_of_getElem? (i := 23) rfl), good_of_word rfl⟩
theorem tw118 : lwG (.instanceMethod yX2_append) := ⟨lwT3 (List.mem_of_getElem? (i := 40) rfl), good_of_word rfl⟩
theorem tw119 : lwG (.methodLink RX5 88 yX2_append) := ⟨lwT3 (List.mem_of_getElem? (i := 39) rfl), good_of_word rfl⟩
theorem tw120 : lwG (.code yX4_has cX4_has 2 (some .boolean)) := ⟨lwT1 (List.mem_of_getElem? (i := 37) rfl), good_of_word rfl⟩
theorem tw121 : lwG (.selects RX4 yX4_has yX4_has) := ⟨lwT1 (List.mem_of_getElem? (i := 36) rfl), good_of_word rfl⟩
theorem tw122 : lwG (.instanceMethod yX4_has) := ⟨lwT1 (List.mem_of_getElem? (i := 35) rfl), good_of_word rfl⟩
theorem tw123 : lwG (.methodLink RX5 85 yX4_has) := ⟨lwT3 (List.mem_of_getElem? (i := 38) rfl), good_of_word rfl⟩
theorem tw124 : lwG (.code yX5_appendOrder cX5_appendOrder 3 (some .int)) := ⟨lwT3 (List.mem_of_getElem? (i := 37) rfl), good_of_word rfl⟩
theorem tw125 : lwG (.selects RX5 yX5_appendOrder yX5_appendOrder) := ⟨lwT3 (List.mem_of_getElem? (i := 36) rfl), good_of_word rfl⟩
theorem tw126 : lwG (.instanceMethod yX5_appendOrder) := ⟨lwT3 (List.mem_of_getElem? (i := 35) rfl), good_of_word rfl⟩
theorem tw127 : lwG (.methodLink RX6 97 yX5_appendOrder) := ⟨lwT3 (List.mem_of_getElem? (i := 34) rfl), good_of_word rfl⟩
theorem tw128 : lwG (.code yX2_has cX2_has 2 (some .boolean)) := ⟨lwT2 (List.mem_of_getElem? (i := 228) rfl), good_of_word rfl⟩
theorem tw129 : lwG (.selects RX2 yX2_has yX2_has) := ⟨lwT2 (List.mem_of_getElem? (i := 227) rfl), good_of_word rfl⟩
theorem tw130 : lwG (.instanceMethod yX2_has) := ⟨lwT2 (List.mem_of_getElem? (i := 226) rfl), good_of_word rfl⟩
theorem tw131 : lwG (.methodLink RX2 37 yX2_has) := ⟨lwT2 (List.mem_of_getElem? (i := 234) rfl), good_of_word rfl⟩
theorem tw132 : lwG (.code yX2_append cX2_append 4 (some .int)) := ⟨lwT3 (List.mem_of_getElem? (i := 42) rfl), good_of_word rfl⟩
theorem tw133 : lwG (.selects RX2 yX2_append yX2_append) := ⟨lwT3 (List.mem_of_getElem? (i := 41) rfl), good_of_word rfl⟩
theorem tw134 : lwG (.selects RX6 yX6_cancelOrder yX6_cancelOrder) := ⟨lwT5 (List.mem_of_getElem? (i := 132) rfl), good_of_word rfl⟩
theorem tw135 : lwG (.instanceMethod yX6_cancelOrder) := ⟨lwT5 (List.mem_of_getElem? (i := 131) rfl), good_of_word rfl⟩
theorem tw136 : lwG (.methodLink RL 32 yX6_cancelOrder) := ⟨lwT5 (List.mem_of_getElem? (i := 130) rfl), good_of_word rfl⟩
theorem tw137 : lwG (.code yX6_cancelOrder cX6_cancelOrder 3 (some .int)) := ⟨lwT5 (List.mem_of_getElem? (i := 133) rfl), good_of_word rfl⟩
theorem tw138 : lwG (.initialized "java/util/NoSuchElementException") := ⟨lwT1 (List.mem_of_getElem? (i := 22) rfl), good_of_word rfl⟩
theorem tw139 : lwG (.classLink RX6 110 "java/util/NoSuchElementException") := ⟨lwT3 (List.mem_of_getElem? (i := 237) rfl), good_of_word rfl⟩
theorem tw140 : lwG (.code yX2_removeLast cX2_removeLast 3 (some .int)) := ⟨lwT5 (List.mem_of_getElem? (i := 141) rfl), good_of_word rfl⟩
theorem tw141 : lwG (.selects RX2 yX2_removeLast yX2_removeLast) := ⟨lwT5 (List.mem_of_getElem? (i := 140) rfl), good_of_word rfl⟩
theorem tw142 : lwG (.instanceMethod yX2_removeLast) := ⟨lwT5 (List.mem_of_getElem? (i := 139) rfl), good_of_word rfl⟩
theorem tw143 : lwG (.methodLink RX5 91 yX2_removeLast) := ⟨lwT5 (List.mem_of_getElem? (i := 138) rfl), good_of_word rfl⟩
theorem tw144 : lwG (.code yX5_removeOrder cX5_removeOrder 2 (some .int)) := ⟨lwT5 (List.mem_of_getElem? (i := 137) rfl), good_of_word rfl⟩
theorem tw145 : lwG (.selects RX5 yX5_removeOrder yX5_removeOrder) := ⟨lwT5 (List.mem_of_getElem? (i := 136) rfl), good_of_word rfl⟩
theorem tw146 : lwG (.instanceMethod yX5_removeOrder) := ⟨lwT5 (List.mem_of_getElem? (i := 135) rfl), good_of_word rfl⟩
theorem tw147 : lwG (.methodLink RX6 105 yX5_removeOrder) := ⟨lwT5 (List.mem_of_getElem? (i := 134) rfl), good_of_word rfl⟩
theorem tw148 : lwG (.code yX2_waitingAt cX2_waitingAt 3 (some .int)) := ⟨lwT2 (List.mem_of_getElem? (i := 233) rfl), good_of_word rfl⟩
theorem tw149 : lwG (.selects RX2 yX2_waitingAt yX2_waitingAt) := ⟨lwT2 (List.mem_of_getElem? (i := 232) rfl), good_of_word rfl⟩
theorem tw150 : lwG (.instanceMethod yX2_waitingAt) := ⟨lwT2 (List.mem_of_getElem? (i := 231) rfl), good_of_word rfl⟩
theorem tw151 : lwG (.methodLink RX2 41 yX2_waitingAt) := ⟨lwT3 (List.mem_of_getElem? (i := 147) rfl), good_of_word rfl⟩
theorem tw152 : lwG (.classLink RL 35 "java/util/NoSuchElementException") := ⟨lwT3 (List.mem_of_getElem? (i := 219) rfl), good_of_word rfl⟩
theorem tw153 : lwG (.selects RX6 yX6_salt yX6_salt) := ⟨lwT5 (List.mem_of_getElem? (i := 114) rfl), good_of_word rfl⟩
theorem tw154 : lwG (.instanceMethod yX6_salt) := ⟨lwT5 (List.mem_of_getElem? (i := 113) rfl), good_of_word rfl⟩
theorem tw155 : lwG (.methodLink RL 37 yX6_salt) := ⟨lwT5 (List.mem_of_getElem? (i := 112) rfl), good_of_word rfl⟩
theorem tw156 : lwG (.code yX6_salt cX6_salt 3 (some .int)) := ⟨lwT5 (List.mem_of_getElem? (i := 115) rfl), good_of_word rfl⟩
theorem tw157 : lwG (.initialized "java/lang/UnsupportedOperationException") := ⟨lwT1 (List.mem_of_getElem? (i := 21) rfl), good_of_word rfl⟩
theorem tw158 : lwG (.classLink RX6 120 "java/lang/UnsupportedOperationException") := ⟨lwT3 (List.mem_of_getElem? (i := 83) rfl), good_of_word rfl⟩
theorem tw159 : lwG (.fieldLink RX5 101 "SnowDispatcher$Streets" "saltEnd" "[I") := ⟨lwT4 (List.mem_of_getElem? (i := 124) rfl), good_of_word rfl⟩
theorem tw160 : lwG (.fieldLink RX5 97 "SnowDispatcher$Streets" "size" "[I") := ⟨lwT4 (List.mem_of_getElem? (i := 118) rfl), good_of_word rfl⟩
theorem tw161 : lwG (.code yX5_spreadSalt cX5_spreadSalt 2 (some .int)) := ⟨lwT5 (List.mem_of_getElem? (i := 119) rfl), good_of_word rfl⟩
theorem tw162 : lwG (.selects RX5 yX5_spreadSalt yX5_spreadSalt) := ⟨lwT5 (List.mem_of_getElem? (i := 118) rfl), good_of_word rfl⟩
theorem tw163 : lwG (.instanceMethod yX5_spreadSalt) := ⟨lwT5 (List.mem_of_getElem? (i := 117) rfl), good_of_word rfl⟩
theorem tw164 : lwG (.methodLink RX6 115 yX5_spreadSalt) := ⟨lwT5 (List.mem_of_getElem? (i := 116) rfl), good_of_word rfl⟩
theorem tw165 : lwG (.methodLink RX4 47 yX4_has) := ⟨lwT2 (List.mem_of_getElem? (i := 219) rfl), good_of_word rfl⟩
theorem tw166 : lwG (.code yX4_saltLeft cX4_saltLeft 3 (some .int)) := ⟨lwT2 (List.mem_of_getElem? (i := 218) rfl), good_of_word rfl⟩
theorem tw167 : lwG (.selects RX4 yX4_saltLeft yX4_saltLeft) := ⟨lwT2 (List.mem_of_getElem? (i := 217) rfl), good_of_word rfl⟩
theorem tw168 : lwG (.instanceMethod yX4_saltLeft) := ⟨lwT2 (List.mem_of_getElem? (i := 216) rfl), good_of_word rfl⟩
theorem tw169 : lwG (.methodLink RX5 94 yX4_saltLeft) := ⟨lwT5 (List.mem_of_getElem? (i := 120) rfl), good_of_word rfl⟩
theorem tw170 : lwG (.classLink RL 40 "java/lang/UnsupportedOperationException") := ⟨lwT3 (List.mem_of_getElem? (i := 71) rfl), good_of_word rfl⟩
theorem tw171 : lwG (.selects RX6 yX6_loadSalt yX6_loadSalt) := ⟨lwT3 (List.mem_of_getElem? (i := 74) rfl), good_of_word rfl⟩
theorem tw172 : lwG (.instanceMethod yX6_loadSalt) := ⟨lwT3 (List.mem_of_getElem? (i := 73) rfl), good_of_word rfl⟩
theorem tw173 : lwG (.methodLink RL 42 yX6_loadSalt) := ⟨lwT3 (List.mem_of_getElem? (i := 72) rfl), good_of_word rfl⟩
theorem tw174 : lwG (.code yX6_loadSalt cX6_loadSalt 3 (some .int)) := ⟨lwT3 (List.mem_of_getElem? (i := 75) rfl), good_of_word rfl⟩
theorem tw175 : lwG (.code yX5_fillStore cX5_fillStore 2 (some .int)) := ⟨lwT3 (List.mem_of_getElem? (i := 79) rfl), good_of_word rfl⟩
theorem tw176 : lwG (.selects RX5 yX5_fillStore yX5_fillStore) := ⟨lwT3 (List.mem_of_getElem? (i := 78) rfl), good_of_word rfl⟩
theorem tw177 : lwG (.instanceMethod yX5_fillStore) := ⟨lwT3 (List.mem_of_getElem? (i := 77) rfl), good_of_word rfl⟩
theorem tw178 : lwG (.methodLink RX6 127 yX5_fillStore) := ⟨lwT3 (List.mem_of_getElem? (i := 76) rfl), good_of_word rfl⟩
theorem tw179 : lwG (.selects RX6 yX6_setSnowfall yX6_setSnowfall) := ⟨lwT3 (List.mem_of_getElem? (i := 104) rfl), good_of_word rfl⟩
theorem tw180 : lwG (.instanceMethod yX6_setSnowfall) := ⟨lwT3 (List.mem_of_getElem? (i := 103) rfl), good_of_word rfl⟩
theorem tw181 : lwG (.methodLink RL 45 yX6_setSnowfall) := ⟨lwT3 (List.mem_of_getElem? (i := 102) rfl), good_of_word rfl⟩
theorem tw182 : lwG (.code yX6_setSnowfall cX6_setSnowfall 3 (some .int)) := ⟨lwT3 (List.mem_of_getElem? (i := 105) rfl), good_of_word rfl⟩
theorem tw183 : lwG (.code yX5_changeRate cX5_changeRate 3 (some .int)) := ⟨lwT3 (List.mem_of_getElem? (i := 109) rfl), good_of_word rfl⟩
theorem tw184 : lwG (.selects RX5 yX5_changeRate yX5_changeRate) := ⟨lwT3 (List.mem_of_getElem? (i := 108) rfl), good_of_word rfl⟩
theorem tw185 : lwG (.instanceMethod yX5_changeRate) := ⟨lwT3 (List.mem_of_getElem? (i := 107) rfl), good_of_word rfl⟩
theorem tw186 : lwG (.methodLink RX6 134 yX5_changeRate) := ⟨lwT3 (List.mem_of_getElem? (i := 106) rfl), good_of_word rfl⟩
theorem tw187 : lwG (.selects RX6 yX6_setWind yX6_setWind) := ⟨lwT3 (List.mem_of_getElem? (i := 116) rfl), good_of_word rfl⟩
theorem tw188 : lwG (.instanceMethod yX6_setWind) := ⟨lwT3 (List.mem_of_getElem? (i := 115) rfl), good_of_word rfl⟩
theorem tw189 : lwG (.methodLink RL 48 yX6_setWind) := ⟨lwT3 (List.mem_of_getElem? (i := 114) rfl), good_of_word rfl⟩
theorem tw190 : lwG (.code yX6_setWind cX6_setWind 3 (some .int)) := ⟨lwT3 (List.mem_of_getElem? (i := 117) rfl), good_of_word rfl⟩
theorem tw191 : lwG (.code yX5_changeForce cX5_changeForce 3 (some .int)) := ⟨lwT3 (List.mem_of_getElem? (i := 121) rfl), good_of_word rfl⟩
theorem tw192 : lwG (.selects RX5 yX5_changeForce yX5_changeForce) := ⟨lwT3 (List.mem_of_getElem? (i := 120) rfl), good_of_word rfl⟩
theorem tw193 : lwG (.instanceMethod yX5_changeForce) := ⟨lwT3 (List.mem_of_getElem? (i := 119) rfl), good_of_word rfl⟩
theorem tw194 : lwG (.methodLink RX6 139 yX5_changeForce) := ⟨lwT3 (List.mem_of_getElem? (i := 118) rfl), good_of_word rfl⟩
theorem tw195 : lwG (.selects RX6 yX6_advance yX6_advance) := ⟨lwT3 (List.mem_of_getElem? (i := 128) rfl), good_of_word rfl⟩
theorem tw196 : lwG (.instanceMethod yX6_advance) := ⟨lwT3 (List.mem_of_getElem? (i := 127) rfl), good_of_word rfl⟩
theorem tw197 : lwG (.methodLink RL 51 yX6_advance) := ⟨lwT3 (List.mem_of_getElem? (i := 126) rfl), good_of_word rfl⟩
theorem tw198 : lwG (.code yX6_advance cX6_advance 3 (some .int)) := ⟨lwT3 (List.mem_of_getElem? (i := 129) rfl), good_of_word rfl⟩
theorem tw199 : lwG (.code yX2_canBegin cX2_canBegin 2 (some .boolean)) := ⟨lwT3 (List.mem_of_getElem? (i := 137) rfl), good_of_word rfl⟩
theorem tw200 : lwG (.selects RX2 yX2_canBegin yX2_canBegin) := ⟨lwT3 (List.mem_of_getElem? (i := 136) rfl), good_of_word rfl⟩
theorem tw201 : lwG (.instanceMethod yX2_canBegin) := ⟨lwT3 (List.mem_of_getElem? (i := 135) rfl), good_of_word rfl⟩
theorem tw202 : lwG (.methodLink RX5 107 yX2_canBegin) := ⟨lwT3 (List.mem_of_getElem? (i := 134) rfl), good_of_word rfl⟩
theorem tw203 : lwG (.fieldLink RX5 104 "SnowDispatcher$Ploughs" "count" "I") := ⟨lwT4 (List.mem_of_getElem? (i := 169) rfl), good_of_word rfl⟩
theorem tw204 : lwG (.code yX5_passMinutes cX5_passMinutes 5 (some .int)) := ⟨lwT3 (List.mem_of_getElem? (i := 133) rfl), good_of_word rfl⟩
theorem tw205 : lwG (.selects RX5 yX5_passMinutes yX5_passMinutes) := ⟨lwT3 (List.mem_of_getElem? (i := 132) rfl), good_of_word rfl⟩
theorem tw206 : lwG (.instanceMethod yX5_passMinutes) := ⟨lwT3 (List.mem_of_getElem? (i := 131) rfl), good_of_word rfl⟩
theorem tw207 : lwG (.methodLink RX6 144 yX5_passMinutes) := ⟨lwT3 (List.mem_of_getElem? (i := 130) rfl), good_of_word rfl⟩
theorem tw208 : lwG (.fieldLink RX5 146 "SnowDispatcher$Ploughs" "place" "[I") := ⟨lwT4 (List.mem_of_getElem? (i := 159) rfl), good_of_word rfl⟩
theorem tw209 : lwG (.code yX5_minutesFor cX5_minutesFor 4 (some .int)) := ⟨lwT3 (List.mem_of_getElem? (i := 151) rfl), good_of_word rfl⟩
theorem tw210 : lwG (.selects RX5 yX5_minutesFor yX5_minutesFor) := ⟨lwT3 (List.mem_of_getElem? (i := 150) rfl), good_of_word rfl⟩
theorem tw211 : lwG (.instanceMethod yX5_minutesFor) := ⟨lwT3 (List.mem_of_getElem? (i := 149) rfl), good_of_word rfl⟩
theorem tw212 : lwG (.methodLink RX5 126 yX5_minutesFor) := ⟨lwT3 (List.mem_of_getElem? (i := 148) rfl), good_of_word rfl⟩
theorem tw213 : lwG (.code yX2_removeFirst cX2_removeFirst 5 (some .int)) := ⟨lwT3 (List.mem_of_getElem? (i := 146) rfl), good_of_word rfl⟩
theorem tw214 : lwG (.selects RX2 yX2_removeFirst yX2_removeFirst) := ⟨lwT3 (List.mem_of_getElem? (i := 145) rfl), good_of_word rfl⟩
theorem tw215 : lwG (.instanceMethod yX2_removeFirst) := ⟨lwT3 (List.mem_of_getElem? (i := 144) rfl), good_of_word rfl⟩
theorem tw216 : lwG (.methodLink RX5 123 yX2_removeFirst) := ⟨lwT3 (List.mem_of_getElem? (i := 143) rfl), good_of_word rfl⟩
theorem tw217 : lwG (.fieldLink RX5 9 "SnowDispatcher$Town" "paths" "LSnowDispatcher$Paths;") := ⟨lwT4 (List.mem_of_getElem? (i := 184) rfl), good_of_word rfl⟩
theorem tw218 : lwG (.fieldLink RX5 133 "SnowDispatcher$Streets" "higher" "[I") := ⟨lwT4 (List.mem_of_getElem? (i := 112) rfl), good_of_word rfl⟩
theorem tw219 : lwG (.fieldLink RX5 130 "SnowDispatcher$Streets" "lower" "[I") := ⟨lwT4 (List.mem_of_getElem? (i := 109) rfl), good_of_word rfl⟩
theorem tw220 : lwG (.constant RX5 129 (1000000)) := ⟨lwT3 (List.mem_of_getElem? (i := 153) rfl), good_of_word rfl⟩
theorem tw221 : lwG (.code yX5_beginOrder cX5_beginOrder 7 none) := ⟨lwT3 (List.mem_of_getElem? (i := 142) rfl), good_of_word rfl⟩
theorem tw222 : lwG (.selects RX5 yX5_beginOrder yX5_beginOrder) := ⟨lwT0 (List.mem_of_getElem? (i := 2) rfl), good_of_word rfl⟩
theorem tw223 : lwG (.instanceMethod yX5_beginOrder) := ⟨lwT3 (List.mem_of_getElem? (i := 140) rfl), good_of_word rfl⟩
theorem tw224 : lwG (.methodLink RX5 110 yX5_beginOrder) := ⟨lwT3 (List.mem_of_getElem? (i := 138) rfl), good_of_word rfl⟩
theorem tw225 : lwG (.code yX1_nearestOpen cX1_nearestOpen 4 (some .int)) := ⟨lwT3 (List.mem_of_getElem? (i := 163) rfl), good_of_word rfl⟩
theorem tw226 : lwG (.selects RX1 yX1_nearestOpen yX1_nearestOpen) := ⟨lwT0 (List.mem_of_getElem? (i := 3) rfl), good_of_word rfl⟩
theorem tw227 : lwG (.instanceMethod yX1_nearestOpen) := ⟨lwT3 (List.mem_of_getElem? (i := 161) rfl), good_of_word rfl⟩
theorem tw228 : lwG (.methodLink RX1 23 yX1_nearestOpen) := ⟨lwT3 (List.mem_of_getElem? (i := 159) rfl), good_of_word rfl⟩
theorem tw229 : lwG (.methodLink RX1 44 Lib.Math.min.name) := ⟨lwT3 (List.mem_of_getElem? (i := 171) rfl), good_of_word rfl⟩
theorem tw230 : lwG (.fieldLink RX1 41 "SnowDispatcher$Streets" "size" "[I") := ⟨lwT4 (List.mem_of_getElem? (i := 117) rfl), good_of_word rfl⟩
theorem tw231 : lwG (.fieldLink RX1 31 "SnowDispatcher$Streets" "count" "I") := ⟨lwT4 (List.mem_of_getElem? (i := 130) rfl), good_of_word rfl⟩
theorem tw232 : lwG (.fieldLink RX1 15 "SnowDispatcher$Paths" "settled" "[Z") := ⟨lwT4 (List.mem_of_getElem? (i := 85) rfl), good_of_word rfl⟩
theorem tw233 : lwG (.constant RX1 22 (1000000)) := ⟨lwT3 (List.mem_of_getElem? (i := 158) rfl), good_of_word rfl⟩
theorem tw234 : lwG (.fieldLink RX1 9 "SnowDispatcher$Paths" "reach" "[I") := ⟨lwT4 (List.mem_of_getElem? (i := 84) rfl), good_of_word rfl⟩
theorem tw235 : lwG (.code yX1_measureFrom cX1_measureFrom 7 none) := ⟨lwT3 (List.mem_of_getElem? (i := 157) rfl), good_of_word rfl⟩
theorem tw236 : lwG (.initialized RX1) := ⟨lwT1 (List.mem_of_getElem? (i := 2) rfl), good_of_word rfl⟩
theorem tw237 : lwG (.selects RX1 yX1_measureFrom yX1_measureFrom) := ⟨lwT3 (List.mem_of_getElem? (i := 156) rfl), good_of_word rfl⟩
theorem tw238 : lwG (.instanceMethod yX1_measureFrom) := ⟨lwT3 (List.mem_of_getElem? (i := 155) rfl), good_of_word rfl⟩
theorem tw239 : lwG (.methodLink RX5 149 yX1_measureFrom) := ⟨lwT3 (List.mem_of_getElem? (i := 154) rfl), good_of_word rfl⟩
theorem tw240 : lwG (.methodLink RX5 145 yX2_has) := ⟨lwT3 (List.mem_of_getElem? (i := 152) rfl), good_of_word rfl⟩
theorem tw241 : lwG (.fieldLink RX5 156 "SnowDispatcher$Streets" "clearings" "[I") := ⟨lwT4 (List.mem_of_getElem? (i := 128) rfl), good_of_word rfl⟩
theorem tw242 : lwG (.fieldLink RX5 153 "SnowDispatcher$Streets" "snow" "[I") := ⟨lwT4 (List.mem_of_getElem? (i := 121) rfl), good_of_word rfl⟩
theorem tw243 : lwG (.code yX5_clearStreet cX5_clearStreet 2 none) := ⟨lwT3 (List.mem_of_getElem? (i := 188) rfl), good_of_word rfl⟩
theorem tw244 : lwG (.selects RX5 yX5_clearStreet yX5_clearStreet) := ⟨lwT0 (List.mem_of_getElem? (i := 4) rfl), good_of_word rfl⟩
theorem tw245 : lwG (.instanceMethod yX5_clearStreet) := ⟨lwT3 (List.mem_of_getElem? (i := 187) rfl), good_of_word rfl⟩
theorem tw246 : lwG (.methodLink RX5 117 yX5_clearStreet) := ⟨lwT3 (List.mem_of_getElem? (i := 185) rfl), good_of_word rfl⟩
theorem tw247 : lwG (.code yX2_work cX2_work 2 (some .int)) := ⟨lwT3 (List.mem_of_getElem? (i := 184) rfl), good_of_word rfl⟩
theorem tw248 : lwG (.selects RX2 yX2_work yX2_work) := ⟨lwT3 (List.mem_of_getElem? (i := 183) rfl), good_of_word rfl⟩
theorem tw249 : lwG (.instanceMethod yX2_work) := ⟨lwT3 (List.mem_of_getElem? (i := 182) rfl), good_of_word rfl⟩
theorem tw250 : lwG (.methodLink RX5 114 yX2_work) := ⟨lwT3 (List.mem_of_getElem? (i := 181) rfl), good_of_word rfl⟩
theorem tw251 : lwG (.code yX2_begin cX2_begin 5 none) := ⟨lwT3 (List.mem_of_getElem? (i := 180) rfl), good_of_word rfl⟩
theorem tw252 : lwG (.selects RX2 yX2_begin yX2_begin) := ⟨lwT3 (List.mem_of_getElem? (i := 179) rfl), good_of_word rfl⟩
theorem tw253 : lwG (.instanceMethod yX2_begin) := ⟨lwT3 (List.mem_of_getElem? (i := 178) rfl), good_of_word rfl⟩
theorem tw254 : lwG (.methodLink RX5 141 yX2_begin) := ⟨lwT3 (List.mem_of_getElem? (i := 177) rfl), good_of_word rfl⟩
theorem tw255 : lwG (.code yX1_reachOf cX1_reachOf 2 (some .int)) := ⟨lwT3 (List.mem_of_getElem? (i := 175) rfl), good_of_word rfl⟩
theorem tw256 : lwG (.selects RX1 yX1_reachOf yX1_reachOf) := ⟨lwT3 (List.mem_of_getElem? (i := 174) rfl), good_of_word rfl⟩
theorem tw257 : lwG (.instanceMethod yX1_reachOf) := ⟨lwT3 (List.mem_of_getElem? (i := 173) rfl), good_of_word rfl⟩
theorem tw258 : lwG (.methodLink RX5 136 yX1_reachOf) := ⟨lwT3 (List.mem_of_getElem? (i := 172) rfl), good_of_word rfl⟩
theorem tw259 : lwG (.code yX4_otherEnd cX4_otherEnd 3 (some .int)) := ⟨lwT3 (List.mem_of_getElem? (i := 170) rfl), good_of_word rfl⟩
theorem tw260 : lwG (.selects RX4 yX4_otherEnd yX4_otherEnd) := ⟨lwT3 (List.mem_of_getElem? (i := 169) rfl), good_of_word rfl⟩
theorem tw261 : lwG (.instanceMethod yX4_otherEnd) := ⟨lwT3 (List.mem_of_getElem? (i := 168) rfl), good_of_word rfl⟩
theorem tw262 : lwG (.methodLink RX1 37 yX4_otherEnd) := ⟨lwT3 (List.mem_of_getElem? (i := 167) rfl), good_of_word rfl⟩
theorem tw263 : lwG (.selects RX4 yX4_complain yX4_complain) := ⟨lwT3 (List.mem_of_getElem? (i := 209) rfl), good_of_word rfl⟩
theorem tw264 : lwG (.instanceMethod yX4_complain) := ⟨lwT3 (List.mem_of_getElem? (i := 208) rfl), good_of_word rfl⟩
theorem tw265 : lwG (.methodLink RX5 168 yX4_complain) := ⟨lwT3 (List.mem_of_getElem? (i := 207) rfl), good_of_word rfl⟩
theorem tw266 : lwG (.code yX4_drift cX4_drift 5 none) := ⟨lwT3 (List.mem_of_getElem? (i := 206) rfl), good_of_word rfl⟩
theorem tw267 : lwG (.selects RX4 yX4_drift yX4_drift) := ⟨lwT3 (List.mem_of_getElem? (i := 205) rfl), good_of_word rfl⟩
theorem tw268 : lwG (.instanceMethod yX4_drift) := ⟨lwT3 (List.mem_of_getElem? (i := 204) rfl), good_of_word rfl⟩
theorem tw269 : lwG (.methodLink RX5 165 yX4_drift) := ⟨lwT3 (List.mem_of_getElem? (i := 203) rfl), good_of_word rfl⟩
theorem tw270 : lwG (.methodLink RX4 71 Lib.Math.max.name) := ⟨lwT3 (List.mem_of_getElem? (i := 202) rfl), good_of_word rfl⟩
theorem tw271 : lwG (.code yX4_melt cX4_melt 3 none) := ⟨lwT3 (List.mem_of_getElem? (i := 201) rfl), good_of_word rfl⟩
theorem tw272 : lwG (.selects RX4 yX4_melt yX4_melt) := ⟨lwT3 (List.mem_of_getElem? (i := 200) rfl), good_of_word rfl⟩
theorem tw273 : lwG (.instanceMethod yX4_melt) := ⟨lwT3 (List.mem_of_getElem? (i := 199) rfl), good_of_word rfl⟩
theorem tw274 : lwG (.methodLink RX5 162 yX4_melt) := ⟨lwT3 (List.mem_of_getElem? (i := 198) rfl), good_of_word rfl⟩
theorem tw275 : lwG (.methodLink RX4 66 Lib.Math.min.name) := ⟨lwT3 (List.mem_of_getElem? (i := 197) rfl), good_of_word rfl⟩
theorem tw276 : lwG (.code yX4_fall cX4_fall 3 none) := ⟨lwT3 (List.mem_of_getElem? (i := 196) rfl), good_of_word rfl⟩
theorem tw277 : lwG (.selects RX4 yX4_fall yX4_fall) := ⟨lwT3 (List.mem_of_getElem? (i := 195) rfl), good_of_word rfl⟩
theorem tw278 : lwG (.instanceMethod yX4_fall) := ⟨lwT3 (List.mem_of_getElem? (i := 194) rfl), good_of_word rfl⟩
theorem tw279 : lwG (.methodLink RX5 159 yX4_fall) := ⟨lwT3 (List.mem_of_getElem? (i := 193) rfl), good_of_word rfl⟩
theorem tw280 : lwG (.code yX5_endHour cX5_endHour 1 none) := ⟨lwT3 (List.mem_of_getElem? (i := 192) rfl), good_of_word rfl⟩
theorem tw281 : lwG (.selects RX5 yX5_endHour yX5_endHour) := ⟨lwT0 (List.mem_of_getElem? (i := 5) rfl), good_of_word rfl⟩
theorem tw282 : lwG (.instanceMethod yX5_endHour) := ⟨lwT3 (List.mem_of_getElem? (i := 191) rfl), good_of_word rfl⟩
theorem tw283 : lwG (.methodLink RX5 120 yX5_endHour) := ⟨lwT3 (List.mem_of_getElem? (i := 189) rfl), good_of_word rfl⟩
theorem tw284 : lwG (.code yX4_excess cX4_excess 3 (some .int)) := ⟨lwT3 (List.mem_of_getElem? (i := 214) rfl), good_of_word rfl⟩
theorem tw285 : lwG (.selects RX4 yX4_excess yX4_excess) := ⟨lwT3 (List.mem_of_getElem? (i := 213) rfl), good_of_word rfl⟩
theorem tw286 : lwG (.instanceMethod yX4_excess) := ⟨lwT3 (List.mem_of_getElem? (i := 212) rfl), good_of_word rfl⟩
theorem tw287 : lwG (.methodLink RX4 59 yX4_excess) := ⟨lwT3 (List.mem_of_getElem? (i := 211) rfl), good_of_word rfl⟩
theorem tw288 : lwG (.code yX4_complain cX4_complain 3 (some .int)) := ⟨lwT3 (List.mem_of_getElem? (i := 210) rfl), good_of_word rfl⟩
theorem tw289 : lwG (.selects RX6 yX6_saltMinutes yX6_saltMinutes) := ⟨lwT6 (List.mem_of_getElem? (i := 82) rfl), good_of_word rfl⟩
theorem tw290 : lwG (.instanceMethod yX6_saltMinutes) := ⟨lwT6 (List.mem_of_getElem? (i := 81) rfl), good_of_word rfl⟩
theorem tw291 : lwG (.methodLink RL 54 yX6_saltMinutes) := ⟨lwT6 (List.mem_of_getElem? (i := 80) rfl), good_of_word rfl⟩
theorem tw292 : lwG (.code yX6_saltMinutes cX6_saltMinutes 3 (some .int)) := ⟨lwT6 (List.mem_of_getElem? (i := 83) rfl), good_of_word rfl⟩
theorem tw293 : lwG (.methodLink RX6 185 yX4_saltLeft) := ⟨lwT2 (List.mem_of_getElem? (i := 215) rfl), good_of_word rfl⟩
theorem tw294 : lwG (.methodLink RX6 158 yX4_has) := ⟨lwT1 (List.mem_of_getElem? (i := 34) rfl), good_of_word rfl⟩
theorem tw295 : lwG (.fieldLink RX6 182 "SnowDispatcher$Town" "time" "I") := ⟨lwT4 (List.mem_of_getElem? (i := 190) rfl), good_of_word rfl⟩
theorem tw296 : lwG (.fieldLink RX6 149 "SnowDispatcher$Town" "streets" "LSnowDispatcher$Streets;") := ⟨lwT4 (List.mem_of_getElem? (i := 186) rfl), good_of_word rfl⟩
theorem tw297 : lwG (.selects RX6 yX6_distance yX6_distance) := ⟨lwT6 (List.mem_of_getElem? (i := 134) rfl), good_of_word rfl⟩
theorem tw298 : lwG (.instanceMethod yX6_distance) := ⟨lwT6 (List.mem_of_getElem? (i := 133) rfl), good_of_word rfl⟩
theorem tw299 : lwG (.methodLink RL 57 yX6_distance) := ⟨lwT6 (List.mem_of_getElem? (i := 132) rfl), good_of_word rfl⟩
theorem tw300 : lwG (.code yX6_distance cX6_distance 4 (some .int)) := ⟨lwT6 (List.mem_of_getElem? (i := 135) rfl), good_of_word rfl⟩
theorem tw301 : lwG (.methodLink RX6 196 yX1_measureFrom) := ⟨lwT6 (List.mem_of_getElem? (i := 137) rfl), good_of_word rfl⟩
theorem tw302 : lwG (.methodLink RX6 193 yX6_isJunction) := ⟨lwT6 (List.mem_of_getElem? (i := 136) rfl), good_of_word rfl⟩
theorem tw303 : lwG (.constant RX6 203 (1000000)) := ⟨lwT6 (List.mem_of_getElem? (i := 139) rfl), good_of_word rfl⟩
theorem tw304 : lwG (.fieldLink RX6 10 "SnowDispatcher" "paths" "LSnowDispatcher$Paths;") := ⟨lwT5 (List.mem_of_getElem? (i := 33) rfl), good_of_word rfl⟩
theorem tw305 : lwG (.methodLink RX6 200 yX1_reachOf) := ⟨lwT6 (List.mem_of_getElem? (i := 138) rfl), good_of_word rfl⟩
theorem tw306 : lwG (.selects RX6 yX6_distanceByJunctions yX6_distanceByJunctions) := ⟨lwT6 (List.mem_of_getElem? (i := 146) rfl), good_of_word rfl⟩
theorem tw307 : lwG (.instanceMethod yX6_distanceByJunctions) := ⟨lwT6 (List.mem_of_getElem? (i := 145) rfl), good_of_word rfl⟩
theorem tw308 : lwG (.methodLink RL 60 yX6_distanceByJunctions) := ⟨lwT6 (List.mem_of_getElem? (i := 144) rfl), good_of_word rfl⟩
theorem tw309 : lwG (.code yX6_distanceByJunctions cX6_distanceByJunctions 4 (some .int)) := ⟨lwT6 (List.mem_of_getElem? (i := 147) rfl), good_of_word rfl⟩
theorem tw310 : lwG (.methodLink RX1 55 yX1_link) := ⟨lwT6 (List.mem_of_getElem? (i := 152) rfl), good_of_word rfl⟩
theorem tw311 : lwG (.fieldLink RX1 52 "SnowDispatcher$Streets" "higher" "[I") := ⟨lwT4 (List.mem_of_getElem? (i := 111) rfl), good_of_word rfl⟩
theorem tw312 : lwG (.fieldLink RX1 49 "SnowDispatcher$Streets" "lower" "[I") := ⟨lwT4 (List.mem_of_getElem? (i := 107) rfl), good_of_word rfl⟩
theorem tw313 : lwG (.fieldLink RX1 19 "SnowDispatcher$Paths" "table" "[I") := ⟨lwT4 (List.mem_of_getElem? (i := 86) rfl), good_of_word rfl⟩
theorem tw314 : lwG (.code yX1_improveAll cX1_improveAll 4 none) := ⟨lwT6 (List.mem_of_getElem? (i := 151) rfl), good_of_word rfl⟩
theorem tw315 : lwG (.selects RX1 yX1_improveAll yX1_improveAll) := ⟨lwT6 (List.mem_of_getElem? (i := 150) rfl), good_of_word rfl⟩
theorem tw316 : lwG (.instanceMethod yX1_improveAll) := ⟨lwT6 (List.mem_of_getElem? (i := 149) rfl), good_of_word rfl⟩
theorem tw317 : lwG (.methodLink RX6 206 yX1_improveAll) := ⟨lwT6 (List.mem_of_getElem? (i := 148) rfl), good_of_word rfl⟩
theorem tw318 : lwG (.methodLink RX6 210 yX1_between) := ⟨lwT6 (List.mem_of_getElem? (i := 164) rfl), good_of_word rfl⟩
theorem tw319 : lwG (.code yX1_between cX1_between 3 (some .int)) := ⟨lwT6 (List.mem_of_getElem? (i := 163) rfl), good_of_word rfl⟩
theorem tw320 : lwG (.selects RX1 yX1_between yX1_between) := ⟨lwT6 (List.mem_of_getElem? (i := 162) rfl), good_of_word rfl⟩
theorem tw321 : lwG (.instanceMethod yX1_between) := ⟨lwT6 (List.mem_of_getElem? (i := 161) rfl), good_of_word rfl⟩
theorem tw322 : lwG (.methodLink RX1 63 yX1_between) := ⟨lwT6 (List.mem_of_getElem? (i := 160) rfl), good_of_word rfl⟩
theorem tw323 : lwG (.code yX1_improveBy cX1_improveBy 5 none) := ⟨lwT6 (List.mem_of_getElem? (i := 159) rfl), good_of_word rfl⟩
theorem tw324 : lwG (.selects RX1 yX1_improveBy yX1_improveBy) := ⟨lwT0 (List.mem_of_getElem? (i := 16) rfl), good_of_word rfl⟩
theorem tw325 : lwG (.instanceMethod yX1_improveBy) := ⟨lwT6 (List.mem_of_getElem? (i := 158) rfl), good_of_word rfl⟩
theorem tw326 : lwG (.methodLink RX1 59 yX1_improveBy) := ⟨lwT6 (List.mem_of_getElem? (i := 156) rfl), good_of_word rfl⟩
theorem tw327 : lwG (.code yX1_link cX1_link 4 none) := ⟨lwT6 (List.mem_of_getElem? (i := 155) rfl), good_of_word rfl⟩
theorem tw328 : lwG (.selects RX1 yX1_link yX1_link) := ⟨lwT0 (List.mem_of_getElem? (i := 15) rfl), good_of_word rfl⟩
theorem tw329 : lwG (.instanceMethod yX1_link) := ⟨lwT6 (List.mem_of_getElem? (i := 154) rfl), good_of_word rfl⟩
theorem tw330 : lwG (.selects RX6 yX6_streetByUrgency yX6_streetByUrgency) := ⟨lwT3 (List.mem_of_getElem? (i := 222) rfl), good_of_word rfl⟩
theorem tw331 : lwG (.instanceMethod yX6_streetByUrgency) := ⟨lwT3 (List.mem_of_getElem? (i := 221) rfl), good_of_word rfl⟩
theorem tw332 : lwG (.methodLink RL 63 yX6_streetByUrgency) := ⟨lwT3 (List.mem_of_getElem? (i := 220) rfl), good_of_word rfl⟩
theorem tw333 : lwG (.code yX6_streetByUrgency cX6_streetByUrgency 3 (some .int)) := ⟨lwT3 (List.mem_of_getElem? (i := 223) rfl), good_of_word rfl⟩
theorem tw334 : lwG (.code yX4_precedes cX4_precedes 3 (some .boolean)) := ⟨lwT3 (List.mem_of_getElem? (i := 236) rfl), good_of_word rfl⟩
theorem tw335 : lwG (.selects RX4 yX4_precedes yX4_precedes) := ⟨lwT0 (List.mem_of_getElem? (i := 7) rfl), good_of_word rfl⟩
theorem tw336 : lwG (.instanceMethod yX4_precedes) := ⟨lwT3 (List.mem_of_getElem? (i := 235) rfl), good_of_word rfl⟩
theorem tw337 : lwG (.methodLink RX4 55 yX4_precedes) := ⟨lwT3 (List.mem_of_getElem? (i := 233) rfl), good_of_word rfl⟩
theorem tw338 : lwG (.code yX4_rankOf cX4_rankOf 4 (some .int)) := ⟨lwT3 (List.mem_of_getElem? (i := 232) rfl), good_of_word rfl⟩
theorem tw339 : lwG (.selects RX4 yX4_rankOf yX4_rankOf) := ⟨lwT0 (List.mem_of_getElem? (i := 6) rfl), good_of_word rfl⟩
theorem tw340 : lwG (.instanceMethod yX4_rankOf) := ⟨lwT3 (List.mem_of_getElem? (i := 230) rfl), good_of_word rfl⟩
theorem tw341 : lwG (.methodLink RX4 51 yX4_rankOf) := ⟨lwT3 (List.mem_of_getElem? (i := 228) rfl), good_of_word rfl⟩
theorem tw342 : lwG (.code yX4_atRank cX4_atRank 3 (some .int)) := ⟨lwT3 (List.mem_of_getElem? (i := 227) rfl), good_of_word rfl⟩
theorem tw343 : lwG (.selects RX4 yX4_atRank yX4_atRank) := ⟨lwT3 (List.mem_of_getElem? (i := 226) rfl), good_of_word rfl⟩
theorem tw344 : lwG (.instanceMethod yX4_atRank) := ⟨lwT3 (List.mem_of_getElem? (i := 225) rfl), good_of_word rfl⟩
theorem tw345 : lwG (.methodLink RX6 213 yX4_atRank) := ⟨lwT3 (List.mem_of_getElem? (i := 224) rfl), good_of_word rfl⟩
theorem tw346 : lwG (.selects RX6 yX6_currentStreet yX6_currentStreet) := ⟨lwT6 (List.mem_of_getElem? (i := 102) rfl), good_of_word rfl⟩
theorem tw347 : lwG (.instanceMethod yX6_currentStreet) := ⟨lwT6 (List.mem_of_getElem? (i := 101) rfl), good_of_word rfl⟩
theorem tw348 : lwG (.methodLink RL 66 yX6_currentStreet) := ⟨lwT6 (List.mem_of_getElem? (i := 100) rfl), good_of_word rfl⟩
theorem tw349 : lwG (.code yX6_currentStreet cX6_currentStreet 2 (some .int)) := ⟨lwT6 (List.mem_of_getElem? (i := 103) rfl), good_of_word rfl⟩
theorem tw350 : lwG (.methodLink RX6 225 yX2_has) := ⟨lwT2 (List.mem_of_getElem? (i := 225) rfl), good_of_word rfl⟩
theorem tw351 : lwG (.fieldLink RX6 234 "SnowDispatcher$Ploughs" "target" "[I") := ⟨lwT4 (List.mem_of_getElem? (i := 162) rfl), good_of_word rfl⟩
theorem tw352 : lwG (.fieldLink RX6 226 "SnowDispatcher$Ploughs" "minutesLeft" "[I") := ⟨lwT4 (List.mem_of_getElem? (i := 164) rfl), good_of_word rfl⟩
theorem tw353 : lwG (.fieldLink RX6 218 "SnowDispatcher$Town" "ploughs" "LSnowDispatcher$Ploughs;") := ⟨lwT4 (List.mem_of_getElem? (i := 188) rfl), good_of_word rfl⟩
theorem tw354 : lwG (.selects RX6 yX6_queuedStreet yX6_queuedStreet) := ⟨lwT6 (List.mem_of_getElem? (i := 114) rfl), good_of_word rfl⟩
theorem tw355 : lwG (.instanceMethod yX6_queuedStreet) := ⟨lwT6 (List.mem_of_getElem? (i := 113) rfl), good_of_word rfl⟩
theorem tw356 : lwG (.methodLink RL 69 yX6_queuedStreet) := ⟨lwT6 (List.mem_of_getElem? (i := 112) rfl), good_of_word rfl⟩
theorem tw357 : lwG (.code yX6_queuedStreet cX6_queuedStreet 4 (some .int)) := ⟨lwT6 (List.mem_of_getElem? (i := 115) rfl), good_of_word rfl⟩
theorem tw358 : lwG (.methodLink RX6 240 yX2_waitingAt) := ⟨lwT2 (List.mem_of_getElem? (i := 230) rfl), good_of_word rfl⟩
theorem tw359 : lwG (.selects RX6 yX6_orderMinutes yX6_orderMinutes) := ⟨lwT6 (List.mem_of_getElem? (i := 186) rfl), good_of_word rfl⟩
theorem tw360 : lwG (.instanceMethod yX6_orderMinutes) := ⟨lwT6 (List.mem_of_getElem? (i := 185) rfl), good_of_word rfl⟩
theorem tw361 : lwG (.methodLink RL 72 yX6_orderMinutes) := ⟨lwT6 (List.mem_of_getElem? (i := 184) rfl), good_of_word rfl⟩
theorem tw362 : lwG (.code yX6_orderMinutes cX6_orderMinutes 4 (some .int)) := ⟨lwT6 (List.mem_of_getElem? (i := 187) rfl), good_of_word rfl⟩
theorem tw363 : lwG (.methodLink RX6 245 yX5_minutesFor) := ⟨lwT6 (List.mem_of_getElem? (i := 188) rfl), good_of_word rfl⟩
theorem tw364 : lwG (.selects RX6 yX6_minutesUntilCleared yX6_minutesUntilCleared) := ⟨lwT4 (List.mem_of_getElem? (i := 18) rfl), good_of_word rfl⟩
theorem tw365 : lwG (.instanceMethod yX6_minutesUntilCleared) := ⟨lwT4 (List.mem_of_getElem? (i := 17) rfl), good_of_word rfl⟩
theorem tw366 : lwG (.methodLink RL 75 yX6_minutesUntilCleared) := ⟨lwT4 (List.mem_of_getElem? (i := 16) rfl), good_of_word rfl⟩
theorem tw367 : lwG (.code yX6_minutesUntilCleared cX6_minutesUntilCleared 3 (some .int)) := ⟨lwT4 (List.mem_of_getElem? (i := 19) rfl), good_of_word rfl⟩
theorem tw368 : lwG (.methodLink RX6 255 yX5_copyFrom) := ⟨lwT2 (List.mem_of_getElem? (i := 239) rfl), good_of_word rfl⟩
theorem tw369 : lwG (.fieldLink RX6 25 "SnowDispatcher" "future" "LSnowDispatcher$Town;") := ⟨lwT5 (List.mem_of_getElem? (i := 35) rfl), good_of_word rfl⟩
theorem tw370 : lwG (.code yX6_foretellClearing cX6_foretellClearing 4 (some .int)) := ⟨lwT4 (List.mem_of_getElem? (i := 24) rfl), good_of_word rfl⟩
theorem tw371 : lwG (.selects RX6 yX6_foretellClearing yX6_foretellClearing) := ⟨lwT0 (List.mem_of_getElem? (i := 8) rfl), good_of_word rfl⟩
theorem tw372 : lwG (.instanceMethod yX6_foretellClearing) := ⟨lwT4 (List.mem_of_getElem? (i := 22) rfl), good_of_word rfl⟩
theorem tw373 : lwG (.methodLink RX6 250 yX6_foretellClearing) := ⟨lwT4 (List.mem_of_getElem? (i := 20) rfl), good_of_word rfl⟩
theorem tw374 : lwG (.code yX4_timesCleared cX4_timesCleared 2 (some .int)) := ⟨lwT4 (List.mem_of_getElem? (i := 28) rfl), good_of_word rfl⟩
theorem tw375 : lwG (.selects RX4 yX4_timesCleared yX4_timesCleared) := ⟨lwT4 (List.mem_of_getElem? (i := 27) rfl), good_of_word rfl⟩
theorem tw376 : lwG (.instanceMethod yX4_timesCleared) := ⟨lwT4 (List.mem_of_getElem? (i := 26) rfl), good_of_word rfl⟩
theorem tw377 : lwG (.methodLink RX6 258 yX4_timesCleared) := ⟨lwT4 (List.mem_of_getElem? (i := 25) rfl), good_of_word rfl⟩
theorem tw378 : lwG (.selects RX6 yX6_depthAfter yX6_depthAfter) := ⟨lwT4 (List.mem_of_getElem? (i := 35) rfl), good_of_word rfl⟩
theorem tw379 : lwG (.instanceMethod yX6_depthAfter) := ⟨lwT4 (List.mem_of_getElem? (i := 34) rfl), good_of_word rfl⟩
theorem tw380 : lwG (.methodLink RL 78 yX6_depthAfter) := ⟨lwT4 (List.mem_of_getElem? (i := 33) rfl), good_of_word rfl⟩
theorem tw381 : lwG (.code yX6_depthAfter cX6_depthAfter 3 (some .int)) := ⟨lwT4 (List.mem_of_getElem? (i := 36) rfl), good_of_word rfl⟩
theorem tw382 : lwG (.fieldLink RX6 176 "SnowDispatcher$Streets" "snow" "[I") := ⟨lwT4 (List.mem_of_getElem? (i := 122) rfl), good_of_word rfl⟩
theorem tw383 : lwG (.selects RX6 yX6_runScript yX6_runScript) := ⟨lwT5 (List.mem_of_getElem? (i := 186) rfl), good_of_word rfl⟩
theorem tw384 : lwG (.instanceMethod yX6_runScript) := ⟨lwT5 (List.mem_of_getElem? (i := 185) rfl), good_of_word rfl⟩
theorem tw385 : lwG (.methodLink RL 81 yX6_runScript) := ⟨lwT5 (List.mem_of_getElem? (i := 184) rfl), good_of_word rfl⟩
theorem tw386 : lwG (.code yX6_runScript cX6_runScript 3 (some .int)) := ⟨lwT5 (List.mem_of_getElem? (i := 187) rfl), good_of_word rfl⟩
theorem tw387 : lwG (.methodLink RX3 74 Lib.Math.max.name) := ⟨lwT6 (List.mem_of_getElem? (i := 3) rfl), good_of_word rfl⟩
theorem tw388 : lwG (.fieldLink RX3 67 "SnowDispatcher$Script" "verb" "I") := ⟨lwT5 (List.mem_of_getElem? (i := 20) rfl), good_of_word rfl⟩
theorem tw389 : lwG (.code yX3_readCommand cX3_readCommand 5 (some .boolean)) := ⟨lwT5 (List.mem_of_getElem? (i := 195) rfl), good_of_word rfl⟩
theorem tw390 : lwG (.selects RX3 yX3_readCommand yX3_readCommand) := ⟨lwT0 (List.mem_of_getElem? (i := 9) rfl), good_of_word rfl⟩
theorem tw391 : lwG (.instanceMethod yX3_readCommand) := ⟨lwT5 (List.mem_of_getElem? (i := 194) rfl), good_of_word rfl⟩
theorem tw392 : lwG (.methodLink RX3 44 yX3_readCommand) := ⟨lwT5 (List.mem_of_getElem? (i := 192) rfl), good_of_word rfl⟩
theorem tw393 : lwG (.fieldLink RX3 12 "SnowDispatcher$Script" "text" "Ljava/lang/StringBuilder;") := ⟨lwT5 (List.mem_of_getElem? (i := 15) rfl), good_of_word rfl⟩
theorem tw394 : lwG (.fieldLink RX3 40 "SnowDispatcher$Script" "at" "I") := ⟨lwT5 (List.mem_of_getElem? (i := 18) rfl), good_of_word rfl⟩
theorem tw395 : lwG (.code yX3_countCommands cX3_countCommands 2 (some .int)) := ⟨lwT5 (List.mem_of_getElem? (i := 191) rfl), good_of_word rfl⟩
theorem tw396 : lwG (.initialized RX3) := ⟨lwT1 (List.mem_of_getElem? (i := 7) rfl), good_of_word rfl⟩
theorem tw397 : lwG (.selects RX3 yX3_countCommands yX3_countCommands) := ⟨lwT5 (List.mem_of_getElem? (i := 190) rfl), good_of_word rfl⟩
theorem tw398 : lwG (.instanceMethod yX3_countCommands) := ⟨lwT5 (List.mem_of_getElem? (i := 189) rfl), good_of_word rfl⟩
theorem tw399 : lwG (.methodLink RX6 337 yX3_countCommands) := ⟨lwT5 (List.mem_of_getElem? (i := 188) rfl), good_of_word rfl⟩
theorem tw400 : lwG (.fieldLink RX6 60 "SnowDispatcher" "refusedCommand" "I") := ⟨lwT5 (List.mem_of_getElem? (i := 42) rfl), good_of_word rfl⟩
theorem tw401 : lwG (.fieldLink RX6 332 "SnowDispatcher$Script" "text" "Ljava/lang/StringBuilder;") := ⟨lwT5 (List.mem_of_getElem? (i := 16) rfl), good_of_word rfl⟩
theorem tw402 : lwG (.fieldLink RX6 56 "SnowDispatcher" "wrongPosition" "I") := ⟨lwT5 (List.mem_of_getElem? (i := 41) rfl), good_of_word rfl⟩
theorem tw403 : lwG (.fieldLink RX6 340 "SnowDispatcher$Script" "at" "I") := ⟨lwT5 (List.mem_of_getElem? (i := 19) rfl), good_of_word rfl⟩
theorem tw404 : lwG (.fieldLink RX6 41 "SnowDispatcher" "script" "LSnowDispatcher$Script;") := ⟨lwT5 (List.mem_of_getElem? (i := 38) rfl), good_of_word rfl⟩
theorem tw405 : lwG (.instanceMethod yJ0_charAt_5068e) := ⟨lwT5 (List.mem_of_getElem? (i := 160) rfl), good_of_word rfl⟩
theorem tw406 : lwG (.methodLink RX3 80 yJ0_charAt_5068e) := ⟨lwT5 (List.mem_of_getElem? (i := 213) rfl), good_of_word rfl⟩
theorem tw407 : lwG (.fieldLink RJ0 15 "java/lang/String" "coder" "B") := ⟨lwT2 (List.mem_of_getElem? (i := 133) rfl), good_of_word rfl⟩
theorem tw408 : lwG (.fieldLink RJ0 38 "java/lang/String" "COMPACT_STRINGS" "Z") := ⟨lwT2 (List.mem_of_getElem? (i := 2) rfl), good_of_word rfl⟩
theorem tw409 : lwG (.code yJ0_coder_7d493 cJ0_coder_7d493 1 (some .byte)) := ⟨lwT2 (List.mem_of_getElem? (i := 1) rfl), good_of_word rfl⟩
theorem tw410 : lwG (.selects RJ0 yJ0_coder_7d493 yJ0_coder_7d493) := ⟨lwT2 (List.mem_of_getElem? (i := 0) rfl), good_of_word rfl⟩
theorem tw411 : lwG (.instanceMethod yJ0_coder_7d493) := ⟨lwT1 (List.mem_of_getElem? (i := 239) rfl), good_of_word rfl⟩
theorem tw412 : lwG (.methodLink RJ0 335 yJ0_coder_7d493) := ⟨lwT1 (List.mem_of_getElem? (i := 238) rfl), good_of_word rfl⟩
theorem tw413 : lwG (.fieldLink RJ0 9 "java/lang/String" "value" "[B") := ⟨lwT2 (List.mem_of_getElem? (i := 132) rfl), good_of_word rfl⟩
theorem tw414 : lwG (.code yJ0_length_8abf5 cJ0_length_8abf5 1 (some .int)) := ⟨lwT1 (List.mem_of_getElem? (i := 237) rfl), good_of_word rfl⟩
theorem tw415 : lwG (.initialized RJ0) := ⟨lwT1 (List.mem_of_getElem? (i := 10) rfl), good_of_word rfl⟩
theorem tw416 : lwG (.selects RJ0 yJ0_length_8abf5 yJ0_length_8abf5) := ⟨lwT1 (List.mem_of_getElem? (i := 236) rfl), good_of_word rfl⟩
theorem tw417 : lwG (.instanceMethod yJ0_length_8abf5) := ⟨lwT1 (List.mem_of_getElem? (i := 235) rfl), good_of_word rfl⟩
theorem tw418 : lwG (.methodLink RX3 64 yJ0_length_8abf5) := ⟨lwT5 (List.mem_of_getElem? (i := 212) rfl), good_of_word rfl⟩
theorem tw419 : lwG (.code yX3_fittingSigns cX3_fittingSigns 3 (some .int)) := ⟨lwT5 (List.mem_of_getElem? (i := 211) rfl), good_of_word rfl⟩
theorem tw420 : lwG (.selects RX3 yX3_fittingSigns yX3_fittingSigns) := ⟨lwT0 (List.mem_of_getElem? (i := 10) rfl), good_of_word rfl⟩
theorem tw421 : lwG (.instanceMethod yX3_fittingSigns) := ⟨lwT5 (List.mem_of_getElem? (i := 210) rfl), good_of_word rfl⟩
theorem tw422 : lwG (.methodLink RX3 60 yX3_fittingSigns) := ⟨lwT5 (List.mem_of_getElem? (i := 208) rfl), good_of_word rfl⟩
theorem tw423 : lwG (.code yX3_formOf cX3_formOf 1 (some (.object "java/lang/String"))) := ⟨lwT5 (List.mem_of_getElem? (i := 198) rfl), good_of_word rfl⟩
theorem tw424 : lwG (.static yX3_formOf) := ⟨lwT5 (List.mem_of_getElem? (i := 197) rfl), good_of_word rfl⟩
theorem tw425 : lwG (.methodLink RX3 56 yX3_formOf) := ⟨lwT5 (List.mem_of_getElem? (i := 196) rfl), good_of_word rfl⟩
theorem tw426 : lwG (.static yJ2_checkIndex_2214a) := ⟨lwT2 (List.mem_of_getElem? (i := 205) rfl), good_of_word rfl⟩
theorem tw427 : lwG (.methodLink RJ2 67 yJ2_checkIndex_2214a) := ⟨lwT2 (List.mem_of_getElem? (i := 204) rfl), good_of_word rfl⟩
theorem tw428 : lwG (.code yJ2_charAt_3b067 cJ2_charAt_3b067 2 (some .char)) := ⟨lwT5 (List.mem_of_getElem? (i := 173) rfl), good_of_word rfl⟩
theorem tw429 : lwG (.initialized RJ2) := ⟨lwT1 (List.mem_of_getElem? (i := 11) rfl), good_of_word rfl⟩
theorem tw430 : lwG (.static yJ2_charAt_3b067) := ⟨lwT5 (List.mem_of_getElem? (i := 172) rfl), good_of_word rfl⟩
theorem tw431 : lwG (.methodLink RJ0 498 yJ2_charAt_3b067) := ⟨lwT5 (List.mem_of_getElem? (i := 171) rfl), good_of_word rfl⟩
theorem tw432 : lwG (.code yJ3_checkIndex_8e157 cJ3_checkIndex_8e157 3 (some .int)) := ⟨lwT2 (List.mem_of_getElem? (i := 212) rfl), good_of_word rfl⟩
theorem tw433 : lwG (.initialized RJ3) := ⟨lwT1 (List.mem_of_getElem? (i := 25) rfl), good_of_word rfl⟩
theorem tw434 : lwG (.static yJ3_checkIndex_8e157) := ⟨lwT2 (List.mem_of_getElem? (i := 211) rfl), good_of_word rfl⟩
theorem tw435 : lwG (.methodLink RJ0 1059 yJ3_checkIndex_8e157) := ⟨lwT2 (List.mem_of_getElem? (i := 210) rfl), good_of_word rfl⟩
theorem tw436 : lwG (.fieldLink RJ0 1053 "jdk/internal/util/Preconditions" "SIOOBE_FORMATTER" "Ljava/util/function/BiFunction;") := ⟨lwT1 (List.mem_of_getElem? (i := 220) rfl), good_of_word rfl⟩
theorem tw437 : lwG (.code yJ0_checkIndex_df160 cJ0_checkIndex_df160 2 none) := ⟨lwT2 (List.mem_of_getElem? (i := 209) rfl), good_of_word rfl⟩
theorem tw438 : lwG (.static yJ0_checkIndex_df160) := ⟨lwT2 (List.mem_of_getElem? (i := 208) rfl), good_of_word rfl⟩
theorem tw439 : lwG (.methodLink RJ1 9 yJ0_checkIndex_df160) := ⟨lwT5 (List.mem_of_getElem? (i := 170) rfl), good_of_word rfl⟩
theorem tw440 : lwG (.code yJ1_charAt_3b067 cJ1_charAt_3b067 2 (some .char)) := ⟨lwT5 (List.mem_of_getElem? (i := 169) rfl), good_of_word rfl⟩
theorem tw441 : lwG (.initialized RJ1) := ⟨lwT1 (List.mem_of_getElem? (i := 26) rfl), good_of_word rfl⟩
theorem tw442 : lwG (.static yJ1_charAt_3b067) := ⟨lwT5 (List.mem_of_getElem? (i := 168) rfl), good_of_word rfl⟩
theorem tw443 : lwG (.methodLink RJ0 495 yJ1_charAt_3b067) := ⟨lwT5 (List.mem_of_getElem? (i := 167) rfl), good_of_word rfl⟩
theorem tw444 : lwG (.code yJ0_isLatin1_aae02 cJ0_isLatin1_aae02 1 (some .boolean)) := ⟨lwT5 (List.mem_of_getElem? (i := 166) rfl), good_of_word rfl⟩
theorem tw445 : lwG (.selects RJ0 yJ0_isLatin1_aae02 yJ0_isLatin1_aae02) := ⟨lwT5 (List.mem_of_getElem? (i := 165) rfl), good_of_word rfl⟩
theorem tw446 : lwG (.instanceMethod yJ0_isLatin1_aae02) := ⟨lwT5 (List.mem_of_getElem? (i := 164) rfl), good_of_word rfl⟩
theorem tw447 : lwG (.methodLink RJ0 492 yJ0_isLatin1_aae02) := ⟨lwT5 (List.mem_of_getElem? (i := 163) rfl), good_of_word rfl⟩
theorem tw448 : lwG (.code yJ0_charAt_5068e cJ0_charAt_5068e 2 (some .char)) := ⟨lwT5 (List.mem_of_getElem? (i := 162) rfl), good_of_word rfl⟩
theorem tw449 : lwG (.selects RJ0 yJ0_charAt_5068e yJ0_charAt_5068e) := ⟨lwT5 (List.mem_of_getElem? (i := 161) rfl), good_of_word rfl⟩
theorem tw450 : lwG (.instanceMethod yJ5_length_8abf5) := ⟨lwT2 (List.mem_of_getElem? (i := 81) rfl), good_of_word rfl⟩
theorem tw451 : lwG (.superclass RJ4 RJ5) := ⟨lwT1 (List.mem_of_getElem? (i := 117) rfl), good_of_word rfl⟩
theorem tw452 : lwG (.sameMethod "java/lang/AbstractStringBuilder" "java/lang/AbstractStringBuilder" "length" "()I") := ⟨lwT2 (List.mem_of_getElem? (i := 82) rfl), good_of_word rfl⟩
theorem tw453 : lwG (.methodLink RJ4 343 yJ5_length_8abf5) := ⟨lwT2 (List.mem_of_getElem? (i := 86) rfl), good_of_word rfl⟩
theorem tw454 : lwG (.code yJ4_length_8abf5 cJ4_length_8abf5 1 (some .int)) := ⟨lwT2 (List.mem_of_getElem? (i := 85) rfl), good_of_word rfl⟩
theorem tw455 : lwG (.initialized RJ4) := ⟨lwT1 (List.mem_of_getElem? (i := 9) rfl), good_of_word rfl⟩
theorem tw456 : lwG (.selects RJ4 yJ4_length_8abf5 yJ4_length_8abf5) := ⟨lwT6 (List.mem_of_getElem? (i := 218) rfl), good_of_word rfl⟩
theorem tw457 : lwG (.instanceMethod yJ4_length_8abf5) := ⟨lwT2 (List.mem_of_getElem? (i := 84) rfl), good_of_word rfl⟩
theorem tw458 : lwG (.methodLink RX3 48 yJ4_length_8abf5) := ⟨lwT5 (List.mem_of_getElem? (i := 218) rfl), good_of_word rfl⟩
theorem tw459 : lwG (.code yX3_signAt cX3_signAt 2 (some .char)) := ⟨lwT5 (List.mem_of_getElem? (i := 217) rfl), good_of_word rfl⟩
theorem tw460 : lwG (.selects RX3 yX3_signAt yX3_signAt) := ⟨lwT0 (List.mem_of_getElem? (i := 11) rfl), good_of_word rfl⟩
theorem tw461 : lwG (.instanceMethod yX3_signAt) := ⟨lwT5 (List.mem_of_getElem? (i := 216) rfl), good_of_word rfl⟩
theorem tw462 : lwG (.methodLink RX3 52 yX3_signAt) := ⟨lwT5 (List.mem_of_getElem? (i := 214) rfl), good_of_word rfl⟩
theorem tw463 : lwG (.fieldLink RJ2 63 "java/lang/StringUTF16" "LO_BYTE_SHIFT" "I") := ⟨lwT1 (List.mem_of_getElem? (i := 232) rfl), good_of_word rfl⟩
theorem tw464 : lwG (.fieldLink RJ2 59 "java/lang/StringUTF16" "HI_BYTE_SHIFT" "I") := ⟨lwT1 (List.mem_of_getElem? (i := 230) rfl), good_of_word rfl⟩
theorem tw465 : lwG (.fieldLink RJ2 44 "java/lang/StringUTF16" "$assertionsDisabled" "Z") := ⟨lwT1 (List.mem_of_getElem? (i := 228) rfl), good_of_word rfl⟩
theorem tw466 : lwG (.code yJ2_getChar_3b067 cJ2_getChar_3b067 2 (some .char)) := ⟨lwT2 (List.mem_of_getElem? (i := 127) rfl), good_of_word rfl⟩
theorem tw467 : lwG (.static yJ2_getChar_3b067) := ⟨lwT2 (List.mem_of_getElem? (i := 126) rfl), good_of_word rfl⟩
theorem tw468 : lwG (.methodLink RJ2 71 yJ2_getChar_3b067) := ⟨lwT2 (List.mem_of_getElem? (i := 125) rfl), good_of_word rfl⟩
theorem tw469 : lwG (.methodLink RJ2 414 yJ0_checkIndex_df160) := ⟨lwT2 (List.mem_of_getElem? (i := 207) rfl), good_of_word rfl⟩
theorem tw470 : lwG (.code yJ2_length_9d52b cJ2_length_9d52b 1 (some .int)) := ⟨lwT1 (List.mem_of_getElem? (i := 216) rfl), good_of_word rfl⟩
theorem tw471 : lwG (.static yJ2_length_9d52b) := ⟨lwT1 (List.mem_of_getElem? (i := 215) rfl), good_of_word rfl⟩
theorem tw472 : lwG (.methodLink RJ2 48 yJ2_length_9d52b) := ⟨lwT1 (List.mem_of_getElem? (i := 214) rfl), good_of_word rfl⟩
theorem tw473 : lwG (.code yJ2_checkIndex_2214a cJ2_checkIndex_2214a 2 none) := ⟨lwT2 (List.mem_of_getElem? (i := 206) rfl), good_of_word rfl⟩
theorem tw474 : lwG (.code yX3_isDigit cX3_isDigit 1 (some .boolean)) := ⟨lwT5 (List.mem_of_getElem? (i := 234) rfl), good_of_word rfl⟩
theorem tw475 : lwG (.static yX3_isDigit) := ⟨lwT5 (List.mem_of_getElem? (i := 233) rfl), good_of_word rfl⟩
theorem tw476 : lwG (.methodLink RX3 87 yX3_isDigit) := ⟨lwT5 (List.mem_of_getElem? (i := 232) rfl), good_of_word rfl⟩
theorem tw477 : lwG (.code yX3_fits cX3_fits 2 (some .boolean)) := ⟨lwT5 (List.mem_of_getElem? (i := 231) rfl), good_of_word rfl⟩
theorem tw478 : lwG (.static yX3_fits) := ⟨lwT5 (List.mem_of_getElem? (i := 230) rfl), good_of_word rfl⟩
theorem tw479 : lwG (.methodLink RX3 83 yX3_fits) := ⟨lwT5 (List.mem_of_getElem? (i := 229) rfl), good_of_word rfl⟩
theorem tw480 : lwG (.methodLink RJ5 148 yJ2_getChar_3b067) := ⟨lwT5 (List.mem_of_getElem? (i := 228) rfl), good_of_word rfl⟩
theorem tw481 : lwG (.methodLink RJ5 144 yJ0_checkIndex_df160) := ⟨lwT5 (List.mem_of_getElem? (i := 227) rfl), good_of_word rfl⟩
theorem tw482 : lwG (.methodLink RJ5 138 Lib.Math.min.name) := ⟨lwT5 (List.mem_of_getElem? (i := 226) rfl), good_of_word rfl⟩
theorem tw483 : lwG (.fieldLink RJ5 15 "java/lang/AbstractStringBuilder" "value" "[B") := ⟨lwT1 (List.mem_of_getElem? (i := 143) rfl), good_of_word rfl⟩
theorem tw484 : lwG (.fieldLink RJ5 22 "java/lang/AbstractStringBuilder" "coder" "B") := ⟨lwT1 (List.mem_of_getElem? (i := 144) rfl), good_of_word rfl⟩
theorem tw485 : lwG (.code yJ5_charAt_5068e cJ5_charAt_5068e 5 (some .char)) := ⟨lwT5 (List.mem_of_getElem? (i := 225) rfl), good_of_word rfl⟩
theorem tw486 : lwG (.instanceMethod yJ5_charAt_5068e) := ⟨lwT5 (List.mem_of_getElem? (i := 224) rfl), good_of_word rfl⟩
theorem tw487 : lwG (.sameMethod "java/lang/AbstractStringBuilder" "java/lang/AbstractStringBuilder" "charAt" "(I)C") := ⟨lwT6 (List.mem_of_getElem? (i := 219) rfl), good_of_word rfl⟩
theorem tw488 : lwG (.methodLink RJ4 329 yJ5_charAt_5068e) := ⟨lwT5 (List.mem_of_getElem? (i := 223) rfl), good_of_word rfl⟩
theorem tw489 : lwG (.code yJ4_charAt_5068e cJ4_charAt_5068e 2 (some .char)) := ⟨lwT5 (List.mem_of_getElem? (i := 222) rfl), good_of_word rfl⟩
theorem tw490 : lwG (.selects RJ4 yJ4_charAt_5068e yJ4_charAt_5068e) := ⟨lwT5 (List.mem_of_getElem? (i := 221) rfl), good_of_word rfl⟩
theorem tw491 : lwG (.instanceMethod yJ4_charAt_5068e) := ⟨lwT5 (List.mem_of_getElem? (i := 220) rfl), good_of_word rfl⟩
theorem tw492 : lwG (.methodLink RX3 91 yJ4_charAt_5068e) := ⟨lwT5 (List.mem_of_getElem? (i := 219) rfl), good_of_word rfl⟩
theorem tw493 : lwG (.fieldLink RJ5 79 "java/lang/AbstractStringBuilder" "count" "I") := ⟨lwT1 (List.mem_of_getElem? (i := 147) rfl), good_of_word rfl⟩
theorem tw494 : lwG (.code yJ5_length_8abf5 cJ5_length_8abf5 1 (some .int)) := ⟨lwT2 (List.mem_of_getElem? (i := 87) rfl), good_of_word rfl⟩
theorem tw495 : lwG (.initialized RJ5) := ⟨lwT1 (List.mem_of_getElem? (i := 8) rfl), good_of_word rfl⟩
theorem tw496 : lwG (.selects RJ4 ⟨"java/lang/AbstractStringBuilder", "ensureCapacityInternal", "(I)V"⟩ yJ5_ensureCapacityInternal_d00df) := ⟨List.mem_append_left _ (List.mem_of_getElem? (i := 0) rfl), good_of_word rfl⟩
theorem tw497 : lwG (.sameMethod "java/lang/AbstractStringBuilder" "java/lang/AbstractStringBuilder" "ensureCapacityInternal" "(I)V") := ⟨lwT6 (List.mem_of_getElem? (i := 211) rfl), good_of_word rfl⟩
theorem tw498 : lwG (.methodLink RJ5 100 ⟨"java/lang/AbstractStringBuilder", "ensureCapacityInternal", "(I)V"⟩) := ⟨lwT1 (List.mem_of_getElem? (i := 168) rfl), good_of_word rfl⟩
theorem tw499 : lwG (.fieldLink RJ5 73 "java/lang/AbstractStringBuilder" "maybeLatin1" "Z") := ⟨lwT1 (List.mem_of_getElem? (i := 145) rfl), good_of_word rfl⟩
theorem tw500 : lwG (.initialized RJx7c733) := ⟨lwT1 (List.mem_of_getElem? (i := 29) rfl), good_of_word rfl⟩
theorem tw501 : lwG (.instantiable RJx7c733 6) := ⟨lwT1 (List.mem_of_getElem? (i := 121) rfl), good_of_word rfl⟩
theorem tw502 : lwG (.classLink RJ5 129 RJx7c733) := ⟨lwT1 (List.mem_of_getElem? (i := 120) rfl), good_of_word rfl⟩
theorem tw503 : lwG (.code yJ5_setLength_d00df cJ5_setLength_d00df 2 none) := ⟨lwT1 (List.mem_of_getElem? (i := 119) rfl), good_of_word rfl⟩
theorem tw504 : lwG (.instanceMethod yJ5_setLength_d00df) := ⟨lwT1 (List.mem_of_getElem? (i := 118) rfl), good_of_word rfl⟩
theorem tw505 : lwG (.sameMethod "java/lang/AbstractStringBuilder" "java/lang/AbstractStringBuilder" "setLength" "(I)V") := ⟨lwT6 (List.mem_of_getElem? (i := 208) rfl), good_of_word rfl⟩
theorem tw506 : lwG (.methodLink RJ4 333 yJ5_setLength_d00df) := ⟨lwT1 (List.mem_of_getElem? (i := 116) rfl), good_of_word rfl⟩
theorem tw507 : lwG (.code yJ4_setLength_d00df cJ4_setLength_d00df 2 none) := ⟨lwT1 (List.mem_of_getElem? (i := 115) rfl), good_of_word rfl⟩
theorem tw508 : lwG (.selects RJ4 yJ4_setLength_d00df yJ4_setLength_d00df) := ⟨lwT1 (List.mem_of_getElem? (i := 114) rfl), good_of_word rfl⟩
theorem tw509 : lwG (.instanceMethod yJ4_setLength_d00df) := ⟨lwT1 (List.mem_of_getElem? (i := 113) rfl), good_of_word rfl⟩
theorem tw510 : lwG (.methodLink RX6 305 yJ4_setLength_d00df) := ⟨lwT1 (List.mem_of_getElem? (i := 112) rfl), good_of_word rfl⟩
theorem tw511 : lwG (.code yX3_readNumber cX3_readNumber 3 (some .int)) := ⟨lwT6 (List.mem_of_getElem? (i := 2) rfl), good_of_word rfl⟩
theorem tw512 : lwG (.selects RX3 yX3_readNumber yX3_readNumber) := ⟨lwT0 (List.mem_of_getElem? (i := 13) rfl), good_of_word rfl⟩
theorem tw513 : lwG (.instanceMethod yX3_readNumber) := ⟨lwT6 (List.mem_of_getElem? (i := 1) rfl), good_of_word rfl⟩
theorem tw514 : lwG (.methodLink RX3 92 yX3_readNumber) := ⟨lwT5 (List.mem_of_getElem? (i := 239) rfl), good_of_word rfl⟩
theorem tw515 : lwG (.fieldLink RX3 18 "SnowDispatcher$Script" "values" "[I") := ⟨lwT5 (List.mem_of_getElem? (i := 17) rfl), good_of_word rfl⟩
theorem tw516 : lwG (.code yX3_readValues cX3_readValues 5 none) := ⟨lwT5 (List.mem_of_getElem? (i := 238) rfl), good_of_word rfl⟩
theorem tw517 : lwG (.selects RX3 yX3_readValues yX3_readValues) := ⟨lwT0 (List.mem_of_getElem? (i := 12) rfl), good_of_word rfl⟩
theorem tw518 : lwG (.instanceMethod yX3_readValues) := ⟨lwT5 (List.mem_of_getElem? (i := 237) rfl), good_of_word rfl⟩
theorem tw519 : lwG (.methodLink RX3 70 yX3_readValues) := ⟨lwT5 (List.mem_of_getElem? (i := 235) rfl), good_of_word rfl⟩
theorem tw520 : lwG (.native ⟨"java/lang/Object", "clone", "()Ljava/lang/Object;"⟩) := ⟨lwT1 (List.mem_of_getElem? (i := 192) rfl), good_of_word rfl⟩
theorem tw521 : lwG (.sameMethod "[B" "java/lang/Object" "clone" "()Ljava/lang/Object;") := ⟨lwT1 (List.mem_of_getElem? (i := 191) rfl), good_of_word rfl⟩
theorem tw522 : lwG (.methodLink RJ7 310 ⟨"[B", "clone", "()Ljava/lang/Object;"⟩) := ⟨lwT1 (List.mem_of_getElem? (i := 190) rfl), good_of_word rfl⟩
theorem tw523 : lwG (.code yJ7_copyOf_9075b cJ7_copyOf_9075b 3 (some (.array .byte))) := ⟨lwT1 (List.mem_of_getElem? (i := 189) rfl), good_of_word rfl⟩
theorem tw524 : lwG (.initialized RJ7) := ⟨lwT1 (List.mem_of_getElem? (i := 24) rfl), good_of_word rfl⟩
theorem tw525 : lwG (.static yJ7_copyOf_9075b) := ⟨lwT1 (List.mem_of_getElem? (i := 188) rfl), good_of_word rfl⟩
theorem tw526 : lwG (.methodLink RJ5 108 yJ7_copyOf_9075b) := ⟨lwT1 (List.mem_of_getElem? (i := 187) rfl), good_of_word rfl⟩
theorem tw527 : lwG (.code yJ8_hugeLength_7cf53 cJ8_hugeLength_7cf53 3 (some .int)) := ⟨lwT1 (List.mem_of_getElem? (i := 185) rfl), good_of_word rfl⟩
theorem tw528 : lwG (.static yJ8_hugeLength_7cf53) := ⟨lwT1 (List.mem_of_getElem? (i := 184) rfl), good_of_word rfl⟩
theorem tw529 : lwG (.methodLink RJ8 201 yJ8_hugeLength_7cf53) := ⟨lwT1 (List.mem_of_getElem? (i := 183) rfl), good_of_word rfl⟩
theorem tw530 : lwG (.constant RJ8 200 (2147483639)) := ⟨lwT1 (List.mem_of_getElem? (i := 182) rfl), good_of_word rfl⟩
theorem tw531 : lwG (.methodLink RJ8 194 Lib.Math.max.name) := ⟨lwT1 (List.mem_of_getElem? (i := 179) rfl), good_of_word rfl⟩
theorem tw532 : lwG (.code yJ8_newLength_cabcc cJ8_newLength_cabcc 4 (some .int)) := ⟨lwT1 (List.mem_of_getElem? (i := 178) rfl), good_of_word rfl⟩
theorem tw533 : lwG (.initialized RJ8) := ⟨lwT1 (List.mem_of_getElem? (i := 23) rfl), good_of_word rfl⟩
theorem tw534 : lwG (.static yJ8_newLength_cabcc) := ⟨lwT1 (List.mem_of_getElem? (i := 177) rfl), good_of_word rfl⟩
theorem tw535 : lwG (.methodLink RJ5 114 yJ8_newLength_cabcc) := ⟨lwT1 (List.mem_of_getElem? (i := 176) rfl), good_of_word rfl⟩
theorem tw536 : lwG (.constant RJ5 39 (2147483647)) := ⟨lwT1 (List.mem_of_getElem? (i := 186) rfl), good_of_word rfl⟩
theorem tw537 : lwG (.code yJ5_newCapacity_0f7a4 cJ5_newCapacity_0f7a4 6 (some .int)) := ⟨lwT1 (List.mem_of_getElem? (i := 175) rfl), good_of_word rfl⟩
theorem tw538 : lwG (.instanceMethod yJ5_newCapacity_0f7a4) := ⟨lwT1 (List.mem_of_getElem? (i := 174) rfl), good_of_word rfl⟩
theorem tw539 : lwG (.selects RJ4 ⟨"java/lang/AbstractStringBuilder", "newCapacity", "(I)I"⟩ yJ5_newCapacity_0f7a4) := ⟨List.mem_append_left _ (List.mem_of_getElem? (i := 1) rfl), good_of_word rfl⟩
theorem tw540 : lwG (.sameMethod "java/lang/AbstractStringBuilder" "java/lang/AbstractStringBuilder" "newCapacity" "(I)I") := ⟨lwT6 (List.mem_of_getElem? (i := 212) rfl), good_of_word rfl⟩
theorem tw541 : lwG (.methodLink RJ5 104 ⟨"java/lang/AbstractStringBuilder", "newCapacity", "(I)I"⟩) := ⟨lwT1 (List.mem_of_getElem? (i := 172) rfl), good_of_word rfl⟩
theorem tw542 : lwG (.code yJ5_ensureCapacityInternal_d00df cJ5_ensureCapacityInternal_d00df 3 none) := ⟨lwT1 (List.mem_of_getElem? (i := 171) rfl), good_of_word rfl⟩
theorem tw543 : lwG (.instanceMethod yJ5_ensureCapacityInternal_d00df) := ⟨lwT1 (List.mem_of_getElem? (i := 170) rfl), good_of_word rfl⟩
theorem tw544 : lwG (.code yJ7_rangeCheck_23922 cJ7_rangeCheck_23922 3 none) := ⟨lwT2 (List.mem_of_getElem? (i := 159) rfl), good_of_word rfl⟩
theorem tw545 : lwG (.static yJ7_rangeCheck_23922) := ⟨lwT2 (List.mem_of_getElem? (i := 158) rfl), good_of_word rfl⟩
theorem tw546 : lwG (.methodLink RJ7 13 yJ7_rangeCheck_23922) := ⟨lwT2 (List.mem_of_getElem? (i := 157) rfl), good_of_word rfl⟩
theorem tw547 : lwG (.code yJ7_fill_eb02e cJ7_fill_eb02e 5 none) := ⟨lwT2 (List.mem_of_getElem? (i := 156) rfl), good_of_word rfl⟩
theorem tw548 : lwG (.static yJ7_fill_eb02e) := ⟨lwT2 (List.mem_of_getElem? (i := 155) rfl), good_of_word rfl⟩
theorem tw549 : lwG (.methodLink RJ1 236 yJ7_fill_eb02e) := ⟨lwT2 (List.mem_of_getElem? (i := 154) rfl), good_of_word rfl⟩
theorem tw550 : lwG (.code yJ1_fillNull_b72d1 cJ1_fillNull_b72d1 3 none) := ⟨lwT2 (List.mem_of_getElem? (i := 153) rfl), good_of_word rfl⟩
theorem tw551 : lwG (.static yJ1_fillNull_b72d1) := ⟨lwT2 (List.mem_of_getElem? (i := 152) rfl), good_of_word rfl⟩
theorem tw552 : lwG (.methodLink RJ5 133 yJ1_fillNull_b72d1) := ⟨lwT2 (List.mem_of_getElem? (i := 151) rfl), good_of_word rfl⟩
theorem tw553 : lwG (.fieldLink RJ5 18 "java/lang/String" "COMPACT_STRINGS" "Z") := ⟨lwT1 (List.mem_of_getElem? (i := 134) rfl), good_of_word rfl⟩
theorem tw554 : lwG (.code yJ5_isLatin1_aae02 cJ5_isLatin1_aae02 1 (some .boolean)) := ⟨lwT1 (List.mem_of_getElem? (i := 207) rfl), good_of_word rfl⟩
theorem tw555 : lwG (.instanceMethod yJ5_isLatin1_aae02) := ⟨lwT1 (List.mem_of_getElem? (i := 204) rfl), good_of_word rfl⟩
theorem tw556 : lwG (.selects RJ4 ⟨"java/lang/AbstractStringBuilder", "isLatin1", "()Z"⟩ yJ5_isLatin1_aae02) := ⟨lwT1 (List.mem_of_getElem? (i := 206) rfl), good_of_word rfl⟩
theorem tw557 : lwG (.sameMethod "java/lang/AbstractStringBuilder" "java/lang/AbstractStringBuilder" "isLatin1" "()Z") := ⟨lwT1 (List.mem_of_getElem? (i := 205) rfl), good_of_word rfl⟩
theorem tw558 : lwG (.methodLink RJ5 83 ⟨"java/lang/AbstractStringBuilder", "isLatin1", "()Z"⟩) := ⟨lwT1 (List.mem_of_getElem? (i := 203) rfl), good_of_word rfl⟩
theorem tw559 : lwG (.methodLink RJ7 150 arraycopyName) := ⟨lwT1 (List.mem_of_getElem? (i := 200) rfl), good_of_word rfl⟩
theorem tw560 : lwG (.methodLink RJ7 304 Lib.Math.min.name) := ⟨lwT1 (List.mem_of_getElem? (i := 197) rfl), good_of_word rfl⟩
theorem tw561 : lwG (.arrayClass .byte) := ⟨lwT1 (List.mem_of_getElem? (i := 111) rfl), good_of_word rfl⟩
theorem tw562 : lwG (.classLink RJ7 311 "[B") := ⟨lwT1 (List.mem_of_getElem? (i := 196) rfl), good_of_word rfl⟩
theorem tw563 : lwG (.selects "[B" ⟨"[B", "clone", "()Ljava/lang/Object;"⟩ ⟨"java/lang/Object", "clone", "()Ljava/lang/Object;"⟩) := ⟨lwT1 (List.mem_of_getElem? (i := 194) rfl), good_of_word rfl⟩
theorem tw564 : lwG (.instanceMethod ⟨"java/lang/Object", "clone", "()Ljava/lang/Object;"⟩) := ⟨lwT1 (List.mem_of_getElem? (i := 193) rfl), good_of_word rfl⟩
theorem tw565 : lwG (.methodLink RJ2 380 yJ7_fill_eb02e) := ⟨lwT2 (List.mem_of_getElem? (i := 189) rfl), good_of_word rfl⟩
theorem tw566 : lwG (.code yJ2_fillNull_b72d1 cJ2_fillNull_b72d1 3 none) := ⟨lwT2 (List.mem_of_getElem? (i := 188) rfl), good_of_word rfl⟩
theorem tw567 : lwG (.static yJ2_fillNull_b72d1) := ⟨lwT2 (List.mem_of_getElem? (i := 187) rfl), good_of_word rfl⟩
theorem tw568 : lwG (.methodLink RJ5 137 yJ2_fillNull_b72d1) := ⟨lwT2 (List.mem_of_getElem? (i := 186) rfl), good_of_word rfl⟩
theorem tw569 : lwG (.initialized RJx00060) := ⟨lwT1 (List.mem_of_getElem? (i := 16) rfl), good_of_word rfl⟩
theorem tw570 : lwG (.instantiable RJx00060 6) := ⟨lwT2 (List.mem_of_getElem? (i := 164) rfl), good_of_word rfl⟩
theorem tw571 : lwG (.classLink RJ7 68 RJx00060) := ⟨lwT2 (List.mem_of_getElem? (i := 163) rfl), good_of_word rfl⟩
theorem tw572 : lwG (.instantiable RJ4 4) := ⟨lwT1 (List.mem_of_getElem? (i := 126) rfl), good_of_word rfl⟩
theorem tw573 : lwG (.classLink RJ7 45 RJ4) := ⟨lwT2 (List.mem_of_getElem? (i := 107) rfl), good_of_word rfl⟩
theorem tw574 : lwG (.code yX3_readNext cX3_readNext 1 none) := ⟨lwT6 (List.mem_of_getElem? (i := 12) rfl), good_of_word rfl⟩
theorem tw575 : lwG (.selects RX3 yX3_readNext yX3_readNext) := ⟨lwT6 (List.mem_of_getElem? (i := 11) rfl), good_of_word rfl⟩
theorem tw576 : lwG (.instanceMethod yX3_readNext) := ⟨lwT6 (List.mem_of_getElem? (i := 10) rfl), good_of_word rfl⟩
theorem tw577 : lwG (.methodLink RX6 353 yX3_readNext) := ⟨lwT6 (List.mem_of_getElem? (i := 9) rfl), good_of_word rfl⟩
theorem tw578 : lwG (.fieldLink RX6 356 "SnowDispatcher$Script" "verb" "I") := ⟨lwT5 (List.mem_of_getElem? (i := 21) rfl), good_of_word rfl⟩
theorem tw579 : lwG (.code yX6_obeyNext cX6_obeyNext 1 (some .int)) := ⟨lwT6 (List.mem_of_getElem? (i := 8) rfl), good_of_word rfl⟩
theorem tw580 : lwG (.selects RX6 yX6_obeyNext yX6_obeyNext) := ⟨lwT0 (List.mem_of_getElem? (i := 14) rfl), good_of_word rfl⟩
theorem tw581 : lwG (.instanceMethod yX6_obeyNext) := ⟨lwT6 (List.mem_of_getElem? (i := 7) rfl), good_of_word rfl⟩
theorem tw582 : lwG (.methodLink RX6 345 yX6_obeyNext) := ⟨lwT6 (List.mem_of_getElem? (i := 5) rfl), good_of_word rfl⟩
theorem tw583 : lwG (.code yX3_value cX3_value 2 (some .int)) := ⟨lwT6 (List.mem_of_getElem? (i := 16) rfl), good_of_word rfl⟩
theorem tw584 : lwG (.selects RX3 yX3_value yX3_value) := ⟨lwT6 (List.mem_of_getElem? (i := 15) rfl), good_of_word rfl⟩
theorem tw585 : lwG (.instanceMethod yX3_value) := ⟨lwT6 (List.mem_of_getElem? (i := 14) rfl), good_of_word rfl⟩
theorem tw586 : lwG (.methodLink RX6 359 yX3_value) := ⟨lwT6 (List.mem_of_getElem? (i := 13) rfl), good_of_word rfl⟩
theorem tw587 : lwG (.code yX0_read cX0_read 3 none) := ⟨lwT4 (List.mem_of_getElem? (i := 53) rfl), good_of_word rfl⟩
theorem tw588 : lwG (.selects RX0 yX0_read yX0_read) := ⟨lwT4 (List.mem_of_getElem? (i := 52) rfl), good_of_word rfl⟩
theorem tw589 : lwG (.instanceMethod yX0_read) := ⟨lwT4 (List.mem_of_getElem? (i := 51) rfl), good_of_word rfl⟩
theorem tw590 : lwG (.methodLink RX6 348 yX0_read) := ⟨lwT4 (List.mem_of_getElem? (i := 50) rfl), good_of_word rfl⟩
theorem tw591 : lwG (.selects RX6 yX6_undo yX6_undo) := ⟨lwT4 (List.mem_of_getElem? (i := 43) rfl), good_of_word rfl⟩
theorem tw592 : lwG (.instanceMethod yX6_undo) := ⟨lwT4 (List.mem_of_getElem? (i := 42) rfl), good_of_word rfl⟩
theorem tw593 : lwG (.methodLink RL 85 yX6_undo) := ⟨lwT4 (List.mem_of_getElem? (i := 41) rfl), good_of_word rfl⟩
theorem tw594 : lwG (.code yX6_undo cX6_undo 1 (some .int)) := ⟨lwT4 (List.mem_of_getElem? (i := 44) rfl), good_of_word rfl⟩
theorem tw595 : lwG (.code yX0_pop cX0_pop 1 none) := ⟨lwT4 (List.mem_of_getElem? (i := 49) rfl), good_of_word rfl⟩
theorem tw596 : lwG (.selects RX0 yX0_pop yX0_pop) := ⟨lwT4 (List.mem_of_getElem? (i := 48) rfl), good_of_word rfl⟩
theorem tw597 : lwG (.instanceMethod yX0_pop) := ⟨lwT4 (List.mem_of_getElem? (i := 47) rfl), good_of_word rfl⟩
theorem tw598 : lwG (.methodLink RX6 369 yX0_pop) := ⟨lwT4 (List.mem_of_getElem? (i := 46) rfl), good_of_word rfl⟩
theorem tw599 : lwG (.fieldLink RX6 366 "SnowDispatcher$History" "count" "I") := ⟨lwT4 (List.mem_of_getElem? (i := 239) rfl), good_of_word rfl⟩
theorem tw600 : lwG (.selects RX6 yX6_restore yX6_restore) := ⟨lwT4 (List.mem_of_getElem? (i := 59) rfl), good_of_word rfl⟩
theorem tw601 : lwG (.instanceMethod yX6_restore) := ⟨lwT4 (List.mem_of_getElem? (i := 58) rfl), good_of_word rfl⟩
theorem tw602 : lwG (.methodLink RL 88 yX6_restore) := ⟨lwT4 (List.mem_of_getElem? (i := 57) rfl), good_of_word rfl⟩
theorem tw603 : lwG (.code yX6_restore cX6_restore 1 (some .int)) := ⟨lwT4 (List.mem_of_getElem? (i := 60) rfl), good_of_word rfl⟩
theorem tw604 : lwG (.fieldLink RX6 153 "SnowDispatcher$Streets" "count" "I") := ⟨lwT4 (List.mem_of_getElem? (i := 131) rfl), good_of_word rfl⟩
theorem tw605 : lwG (.fieldLink RX6 28 "SnowDispatcher" "snapshot" "LSnowDispatcher$Town;") := ⟨lwT5 (List.mem_of_getElem? (i := 36) rfl), good_of_word rfl⟩
theorem tw606 : lwG (.fieldLink RX6 52 "SnowDispatcher" "saved" "Z") := ⟨lwT5 (List.mem_of_getElem? (i := 40) rfl), good_of_word rfl⟩
