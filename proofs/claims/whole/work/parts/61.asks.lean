/-! what the questions answer -/
theorem z_c16 {a : Nat} (h : a < 65536) : ((nI a).toUInt32 % 65536).toInt32 = nI a := by
  rw [pk_char, pk_tn (by omega), Nat.mod_eq_of_lt h]
theorem m_ofS {A : Nat → Nat} {m : Nat → Int32} (hM : zM A m) (hn : A 1 ≤ 12) {i : Nat} (hi : i < A 1) (k : Nat) {kI : Int32} (hk : kI = nI k) (hk7 : k < 7) {thr : Int32} {post : Int32 → Int32 → Prop} (h : post (nI (A (10 + 7 * i + k))) 0) : wpX7_ofStreet (nI i) kI thr m post := by
  unfold wpX7_ofStreet
  refine m_isSI hM hn hi (br_n (by decide) ?_)
  unfold wpX7_ofStreet_L14
  exact m_no (br_t rfl (m_of hM i k hk (by omega) h))
theorem m_ofSN {A : Nat → Nat} {m : Nat → Int32} (hM : zM A m) (hn : A 1 ≤ 12) {x kI thr : Int32} {post : Int32 → Int32 → Prop} (j : ¬ ∃ i : Nat, i < A 1 ∧ x = nI i) (h : post 0 1) : wpX7_ofStreet x kI thr m post := by
  unfold wpX7_ofStreet
  refine m_isSN hM hn j (br_m rfl ?_)
  unfold wpX7_ofStreet_L14
  exact m_yes (br_f (by decide) h)
theorem m_tlP {A : Nat → Nat} {m : Nat → Int32} (hM : zM A m) (hn : A 2 ≤ 4) {i : Nat} (hi : i < A 2) (k : Nat) {kI : Int32} (hk : kI = nI k) (hk7 : k < 9) {thr : Int32} {post : Int32 → Int32 → Prop} (h : post (nI (A (94 + 9 * i + k))) 0) : wpX7_tellsPlough (nI i) kI thr m post := by
  unfold wpX7_tellsPlough
  refine m_isPI hM hn hi (br_n (by decide) ?_)
  unfold wpX7_tellsPlough_L14
  exact m_no (br_t rfl (m_ofP hM i k hk (by omega) h))
theorem m_tlPN {A : Nat → Nat} {m : Nat → Int32} (hM : zM A m) (hn : A 2 ≤ 4) {x kI thr : Int32} {post : Int32 → Int32 → Prop} (j : ¬ ∃ i : Nat, i < A 2 ∧ x = nI i) (h : post 0 1) : wpX7_tellsPlough x kI thr m post := by
  unfold wpX7_tellsPlough
  refine m_isPN hM hn j (br_m rfl ?_)
  unfold wpX7_tellsPlough_L14
  exact m_yes (br_f (by decide) h)
theorem z_eqv {x y : Int32} {P : Prop} (e : x = y) (h : P) : (x = y → P) ∧ (¬ x = y → False) := ⟨fun _ => h, fun q => q e⟩
/-- a yes or no, told as a long -/
theorem z_okB1 {o : Nat → Int64} {P : Prop} (h : P) : (((0 : Int32) = 0 → ((¬ (0 : Int32) = 0 → P) ∧ ((0 : Int32) = 0 → (((1 : Int32) = 0 → ((lg_cmp (vp_updL o (0 : Int32).toNatClampNeg 1 (0 : Int32).toNatClampNeg) (0 : Int64) = 0 → P) ∧ (¬ lg_cmp (vp_updL o (0 : Int32).toNatClampNeg 1 (0 : Int32).toNatClampNeg) (0 : Int64) = 0 → False))) ∧ (¬ (1 : Int32) = 0 → ((lg_cmp (vp_updL o (0 : Int32).toNatClampNeg 1 (0 : Int32).toNatClampNeg) (1 : Int64) = 0 → P) ∧ (¬ lg_cmp (vp_updL o (0 : Int32).toNatClampNeg 1 (0 : Int32).toNatClampNeg) (1 : Int64) = 0 → False))))))) ∧ (¬ (0 : Int32) = 0 → False)) :=
  ⟨fun _ => ⟨fun _ => h, fun _ => ⟨fun q => absurd q (by decide), fun _ => ⟨fun _ => h, fun q => q z_cmp⟩⟩⟩, fun q => q rfl⟩
theorem z_okB0 {o : Nat → Int64} {P : Prop} (h : P) : (((0 : Int32) = 0 → ((¬ (0 : Int32) = 0 → P) ∧ ((0 : Int32) = 0 → (((0 : Int32) = 0 → ((lg_cmp (vp_updL o (0 : Int32).toNatClampNeg 0 (0 : Int32).toNatClampNeg) (0 : Int64) = 0 → P) ∧ (¬ lg_cmp (vp_updL o (0 : Int32).toNatClampNeg 0 (0 : Int32).toNatClampNeg) (0 : Int64) = 0 → False))) ∧ (¬ (0 : Int32) = 0 → ((lg_cmp (vp_updL o (0 : Int32).toNatClampNeg 0 (0 : Int32).toNatClampNeg) (1 : Int64) = 0 → P) ∧ (¬ lg_cmp (vp_updL o (0 : Int32).toNatClampNeg 0 (0 : Int32).toNatClampNeg) (1 : Int64) = 0 → False))))))) ∧ (¬ (0 : Int32) = 0 → False)) :=
  ⟨fun _ => ⟨fun _ => h, fun _ => ⟨fun _ => ⟨fun _ => h, fun q => q z_cmp⟩, fun q => absurd rfl q⟩⟩, fun q => q rfl⟩
theorem pc9 {tb : Nat} (htb : tb + 36000 < 2 ^ 29) {s_count : Int32} {m_thrown : Int32} {m_s : Nat → Int32} {t_time : Int32} {t_store : Int32} {t_rate : Int32} {t_force : Int32} {t_cleared : Int32} {t_ploughed : Int32} {t_failed : Int32} {t_complained : Int32} {s_lower : Nat → Int32} {s_higher : Nat → Int32} {s_kind : Nat → Int32} {s_size : Nat → Int32} {s_snow : Nat → Int32} {s_saltEnd : Nat → Int32} {s_complained : Nat → Int32} {s_clearings : Nat → Int32} {q_place : Nat → Int32} {q_target : Nat → Int32} {q_minutesLeft : Nat → Int32} {q_waiting : Nat → Int32} {q_orders : Nat → Int32} {q_count : Int32} (hTo : zTo tb t_time t_store t_rate t_force t_cleared t_ploughed t_failed t_complained s_lower s_higher s_kind s_size s_snow s_saltEnd s_complained s_clearings s_count q_place q_target q_minutesLeft q_waiting q_orders q_count m_s) {K : Int32 → Prop} (hK : ∀ (u1 : Int32), K u1) : wpL_c9 s_count m_thrown m_s K := by
  obtain ⟨A, hAt, hT, hM⟩ := hTo
  obtain ⟨hI, ⟨t0, t3, t4, t5, t6, t7, t8, t9⟩, ⟨rfl, hl, hh, hk, hz, hsn, hse, hco⟩, ⟨rfl, q1, q2, q3, q4, q5⟩, hK9, C, hC, hC4⟩ := hT
  unfold wpL_c9 wpX6_streetCount wpX7_streetCount
  refine ⟨by unfold vp_in; decide, z_eqv ?_ (hK _)⟩
  rw [show (1 : Int32).toNatClampNeg = 1 from rfl, hM 1 (by omega)]
theorem pc10 {tb : Nat} (htb : tb + 36000 < 2 ^ 29) {v1 : Int32} {s_lower : Nat → Int32} {s_count : Int32} {m_thrown : Int32} {m_s : Nat → Int32} {o : Nat → Int64} {t_time : Int32} {t_store : Int32} {t_rate : Int32} {t_force : Int32} {t_cleared : Int32} {t_ploughed : Int32} {t_failed : Int32} {t_complained : Int32} {s_higher : Nat → Int32} {s_kind : Nat → Int32} {s_size : Nat → Int32} {s_snow : Nat → Int32} {s_saltEnd : Nat → Int32} {s_complained : Nat → Int32} {s_clearings : Nat → Int32} {q_place : Nat → Int32} {q_target : Nat → Int32} {q_minutesLeft : Nat → Int32} {q_waiting : Nat → Int32} {q_orders : Nat → Int32} {q_count : Int32} (hTo : zTo tb t_time t_store t_rate t_force t_cleared t_ploughed t_failed t_complained s_lower s_higher s_kind s_size s_snow s_saltEnd s_complained s_clearings s_count q_place q_target q_minutesLeft q_waiting q_orders q_count m_s) {K : Int32 → (Nat → Int64) → Prop} (hK : ∀ (u1 : Int32) (u2 : Nat → Int64), K u1 u2) : wpL_c10 v1 s_lower s_count m_thrown m_s o K := by
  obtain ⟨A, hAt, hT, hM⟩ := hTo
  obtain ⟨hI, ⟨t0, t3, t4, t5, t6, t7, t8, t9⟩, ⟨rfl, hl, hh, hk, hz, hsn, hse, hco⟩, ⟨rfl, q1, q2, q3, q4, q5⟩, hK9, C, hC, hC4⟩ := hT
  have hA := hI.1
  unfold wpL_c10 wpL_lowerEnd wpX6_lowerEnd wpX7_lowerEnd wpX7_thrown
  by_cases j : ∃ i : Nat, i < A 1 ∧ v1 = nI i
  · obtain ⟨i, hi, rfl⟩ := j
    have g := hI.2.1 i hi
    refine k_hasI hA.1 hi (br_n (by decide) ⟨vp_in_nI (by omega) (by omega), ?_⟩)
    rw [nI_clamp (by omega), hl i hi]
    refine m_ofS hM hA.1 hi 0 rfl (by omega) ?_
    rw [show 10 + 7 * i + 0 = 10 + 7 * i by omega]
    exact z_okL (hK _ _)
  · exact k_hasN hA.1 j (br_m rfl ⟨rfl, m_ofSN hM hA.1 j (z_noL (by decide) (hK _ _))⟩)
theorem pc11 {tb : Nat} (htb : tb + 36000 < 2 ^ 29) {v1 : Int32} {s_higher : Nat → Int32} {s_count : Int32} {m_thrown : Int32} {m_s : Nat → Int32} {o : Nat → Int64} {t_time : Int32} {t_store : Int32} {t_rate : Int32} {t_force : Int32} {t_cleared : Int32} {t_ploughed : Int32} {t_failed : Int32} {t_complained : Int32} {s_lower : Nat → Int32} {s_kind : Nat → Int32} {s_size : Nat → Int32} {s_snow : Nat → Int32} {s_saltEnd : Nat → Int32} {s_complained : Nat → Int32} {s_clearings : Nat → Int32} {q_place : Nat → Int32} {q_target : Nat → Int32} {q_minutesLeft : Nat → Int32} {q_waiting : Nat → Int32} {q_orders : Nat → Int32} {q_count : Int32} (hTo : zTo tb t_time t_store t_rate t_force t_cleared t_ploughed t_failed t_complained s_lower s_higher s_kind s_size s_snow s_saltEnd s_complained s_clearings s_count q_place q_target q_minutesLeft q_waiting q_orders q_count m_s) {K : Int32 → (Nat → Int64) → Prop} (hK : ∀ (u1 : Int32) (u2 : Nat → Int64), K u1 u2) : wpL_c11 v1 s_higher s_count m_thrown m_s o K := by
  obtain ⟨A, hAt, hT, hM⟩ := hTo
  obtain ⟨hI, ⟨t0, t3, t4, t5, t6, t7, t8, t9⟩, ⟨rfl, hl, hh, hk, hz, hsn, hse, hco⟩, ⟨rfl, q1, q2, q3, q4, q5⟩, hK9, C, hC, hC4⟩ := hT
  have hA := hI.1
  unfold wpL_c11 wpL_higherEnd wpX6_higherEnd wpX7_higherEnd wpX7_thrown
  by_cases j : ∃ i : Nat, i < A 1 ∧ v1 = nI i
  · obtain ⟨i, hi, rfl⟩ := j
    have g := hI.2.1 i hi
    refine k_hasI hA.1 hi (br_n (by decide) ⟨vp_in_nI (by omega) (by omega), ?_⟩)
    rw [nI_clamp (by omega), hh i hi]
    refine m_ofS hM hA.1 hi 1 rfl (by omega) ?_
    rw [show 10 + 7 * i + 1 = 11 + 7 * i by omega]
    exact z_okL (hK _ _)
  · exact k_hasN hA.1 j (br_m rfl ⟨rfl, m_ofSN hM hA.1 j (z_noL (by decide) (hK _ _))⟩)
theorem pc12 {tb : Nat} (htb : tb + 36000 < 2 ^ 29) {v1 : Int32} {s_kind : Nat → Int32} {s_count : Int32} {m_thrown : Int32} {m_s : Nat → Int32} {o : Nat → Int64} {t_time : Int32} {t_store : Int32} {t_rate : Int32} {t_force : Int32} {t_cleared : Int32} {t_ploughed : Int32} {t_failed : Int32} {t_complained : Int32} {s_lower : Nat → Int32} {s_higher : Nat → Int32} {s_size : Nat → Int32} {s_snow : Nat → Int32} {s_saltEnd : Nat → Int32} {s_complained : Nat → Int32} {s_clearings : Nat → Int32} {q_place : Nat → Int32} {q_target : Nat → Int32} {q_minutesLeft : Nat → Int32} {q_waiting : Nat → Int32} {q_orders : Nat → Int32} {q_count : Int32} (hTo : zTo tb t_time t_store t_rate t_force t_cleared t_ploughed t_failed t_complained s_lower s_higher s_kind s_size s_snow s_saltEnd s_complained s_clearings s_count q_place q_target q_minutesLeft q_waiting q_orders q_count m_s) {K : Int32 → (Nat → Int64) → Prop} (hK : ∀ (u1 : Int32) (u2 : Nat → Int64), K u1 u2) : wpL_c12 v1 s_kind s_count m_thrown m_s o K := by
  obtain ⟨A, hAt, hT, hM⟩ := hTo
  obtain ⟨hI, ⟨t0, t3, t4, t5, t6, t7, t8, t9⟩, ⟨rfl, hl, hh, hk, hz, hsn, hse, hco⟩, ⟨rfl, q1, q2, q3, q4, q5⟩, hK9, C, hC, hC4⟩ := hT
  have hA := hI.1
  unfold wpL_c12 wpL_streetClass wpX6_streetClass wpX7_streetClass wpX7_thrown
  by_cases j : ∃ i : Nat, i < A 1 ∧ v1 = nI i
  · obtain ⟨i, hi, rfl⟩ := j
    have g := hI.2.1 i hi
    refine k_hasI hA.1 hi (br_n (by decide) ⟨vp_in_nI (by omega) (by omega), ?_⟩)
    rw [nI_clamp (by omega), hk i hi]
    refine ⟨(pk_charN (by dsimp only; omega)).1, m_ofS hM hA.1 hi 2 rfl (by omega) ?_⟩
    dsimp only
    rw [show 10 + 7 * i + 2 = 12 + 7 * i by omega, z_c16 (by omega)]
    exact ⟨(pk_charN (by omega)).1, z_okL (hK _ _)⟩
  · exact k_hasN hA.1 j (br_m rfl ⟨rfl, m_ofSN hM hA.1 j ⟨rfl, z_noL (by decide) (hK _ _)⟩⟩)
theorem pc13 {tb : Nat} (htb : tb + 36000 < 2 ^ 29) {v1 : Int32} {s_size : Nat → Int32} {s_count : Int32} {m_thrown : Int32} {m_s : Nat → Int32} {o : Nat → Int64} {t_time : Int32} {t_store : Int32} {t_rate : Int32} {t_force : Int32} {t_cleared : Int32} {t_ploughed : Int32} {t_failed : Int32} {t_complained : Int32} {s_lower : Nat → Int32} {s_higher : Nat → Int32} {s_kind : Nat → Int32} {s_snow : Nat → Int32} {s_saltEnd : Nat → Int32} {s_complained : Nat → Int32} {s_clearings : Nat → Int32} {q_place : Nat → Int32} {q_target : Nat → Int32} {q_minutesLeft : Nat → Int32} {q_waiting : Nat → Int32} {q_orders : Nat → Int32} {q_count : Int32} (hTo : zTo tb t_time t_store t_rate t_force t_cleared t_ploughed t_failed t_complained s_lower s_higher s_kind s_size s_snow s_saltEnd s_complained s_clearings s_count q_place q_target q_minutesLeft q_waiting q_orders q_count m_s) {K : Int32 → (Nat → Int64) → Prop} (hK : ∀ (u1 : Int32) (u2 : Nat → Int64), K u1 u2) : wpL_c13 v1 s_size s_count m_thrown m_s o K := by
  obtain ⟨A, hAt, hT, hM⟩ := hTo
  obtain ⟨hI, ⟨t0, t3, t4, t5, t6, t7, t8, t9⟩, ⟨rfl, hl, hh, hk, hz, hsn, hse, hco⟩, ⟨rfl, q1, q2, q3, q4, q5⟩, hK9, C, hC, hC4⟩ := hT
  have hA := hI.1
  unfold wpL_c13 wpL_length wpX6_length wpX7_length wpX7_thrown
  by_cases j : ∃ i : Nat, i < A 1 ∧ v1 = nI i
  · obtain ⟨i, hi, rfl⟩ := j
    have g := hI.2.1 i hi
    refine k_hasI hA.1 hi (br_n (by decide) ⟨vp_in_nI (by omega) (by omega), ?_⟩)
    rw [nI_clamp (by omega), hz i hi]
    refine m_ofS hM hA.1 hi 3 rfl (by omega) ?_
    rw [show 10 + 7 * i + 3 = 13 + 7 * i by omega]
    exact z_okL (hK _ _)
  · exact k_hasN hA.1 j (br_m rfl ⟨rfl, m_ofSN hM hA.1 j (z_noL (by decide) (hK _ _))⟩)
theorem pc14 {tb : Nat} (htb : tb + 36000 < 2 ^ 29) {v1 : Int32} {s_snow : Nat → Int32} {s_count : Int32} {m_thrown : Int32} {m_s : Nat → Int32} {o : Nat → Int64} {t_time : Int32} {t_store : Int32} {t_rate : Int32} {t_force : Int32} {t_cleared : Int32} {t_ploughed : Int32} {t_failed : Int32} {t_complained : Int32} {s_lower : Nat → Int32} {s_higher : Nat → Int32} {s_kind : Nat → Int32} {s_size : Nat → Int32} {s_saltEnd : Nat → Int32} {s_complained : Nat → Int32} {s_clearings : Nat → Int32} {q_place : Nat → Int32} {q_target : Nat → Int32} {q_minutesLeft : Nat → Int32} {q_waiting : Nat → Int32} {q_orders : Nat → Int32} {q_count : Int32} (hTo : zTo tb t_time t_store t_rate t_force t_cleared t_ploughed t_failed t_complained s_lower s_higher s_kind s_size s_snow s_saltEnd s_complained s_clearings s_count q_place q_target q_minutesLeft q_waiting q_orders q_count m_s) {K : Int32 → (Nat → Int64) → Prop} (hK : ∀ (u1 : Int32) (u2 : Nat → Int64), K u1 u2) : wpL_c14 v1 s_snow s_count m_thrown m_s o K := by
  obtain ⟨A, hAt, hT, hM⟩ := hTo
  obtain ⟨hI, ⟨t0, t3, t4, t5, t6, t7, t8, t9⟩, ⟨rfl, hl, hh, hk, hz, hsn, hse, hco⟩, ⟨rfl, q1, q2, q3, q4, q5⟩, hK9, C, hC, hC4⟩ := hT
  have hA := hI.1
  unfold wpL_c14 wpL_depth wpX6_depth wpX7_depth wpX7_thrown
  by_cases j : ∃ i : Nat, i < A 1 ∧ v1 = nI i
  · obtain ⟨i, hi, rfl⟩ := j
    have g := hI.2.1 i hi
    refine k_hasI hA.1 hi (br_n (by decide) ⟨vp_in_nI (by omega) (by omega), ?_⟩)
    rw [nI_clamp (by omega), hsn i hi]
    refine m_ofS hM hA.1 hi 4 rfl (by omega) ?_
    rw [show 10 + 7 * i + 4 = 14 + 7 * i by omega]
    exact z_okL (hK _ _)
  · exact k_hasN hA.1 j (br_m rfl ⟨rfl, m_ofSN hM hA.1 j (z_noL (by decide) (hK _ _))⟩)
theorem pc15 {tb : Nat} (htb : tb + 36000 < 2 ^ 29) {v1 : Int32} {s_kind : Nat → Int32} {s_snow : Nat → Int32} {s_count : Int32} {m_thrown : Int32} {m_s : Nat → Int32} {o : Nat → Int64} {t_time : Int32} {t_store : Int32} {t_rate : Int32} {t_force : Int32} {t_cleared : Int32} {t_ploughed : Int32} {t_failed : Int32} {t_complained : Int32} {s_lower : Nat → Int32} {s_higher : Nat → Int32} {s_size : Nat → Int32} {s_saltEnd : Nat → Int32} {s_complained : Nat → Int32} {s_clearings : Nat → Int32} {q_place : Nat → Int32} {q_target : Nat → Int32} {q_minutesLeft : Nat → Int32} {q_waiting : Nat → Int32} {q_orders : Nat → Int32} {q_count : Int32} (hTo : zTo tb t_time t_store t_rate t_force t_cleared t_ploughed t_failed t_complained s_lower s_higher s_kind s_size s_snow s_saltEnd s_complained s_clearings s_count q_place q_target q_minutesLeft q_waiting q_orders q_count m_s) {K : Int32 → (Nat → Int64) → Prop} (hK : ∀ (u1 : Int32) (u2 : Nat → Int64), K u1 u2) : wpL_c15 v1 s_kind s_snow s_count m_thrown m_s o K := by
  obtain ⟨A, hAt, hT, hM⟩ := hTo
  obtain ⟨hI, ⟨t0, t3, t4, t5, t6, t7, t8, t9⟩, ⟨rfl, hl, hh, hk, hz, hsn, hse, hco⟩, ⟨rfl, q1, q2, q3, q4, q5⟩, hK9, C, hC, hC4⟩ := hT
  have hA := hI.1
  unfold wpL_c15 wpL_isOverdue wpX6_isOverdue wpX7_isOverdue wpX7_thrown
  by_cases j : ∃ i : Nat, i < A 1 ∧ v1 = nI i
  · obtain ⟨i, hi, rfl⟩ := j
    have g := hI.2.1 i hi
    have lx := zlim_le g.2.2.2.1
    refine k_hasI hA.1 hi (br_n (by decide) (k_excess hI hk hsn hi ?_))
    have mov : ∀ post : Int32 → Int32 → Prop, (zlim (A (12 + 7 * i)) < A (14 + 7 * i) → post 1 0) → (¬ zlim (A (12 + 7 * i)) < A (14 + 7 * i) → post 0 0) → wpX7_isStreet (nI i) m_s (fun r1 => ((¬ r1 = 0 → wpX7_isOverdue_L14 (nI i) m_s post 0 m_thrown) ∧ (r1 = 0 → wpX7_isOverdue_L14 (nI i) m_s post 1 m_thrown))) := by
      intro post h1 h0
      refine m_isSI hM hA.1 hi (br_n (by decide) ?_)
      unfold wpX7_isOverdue_L14
      exact m_no (br_m rfl (m_overdue hI hM hi (fun q => br_f (by decide) (h1 q)) (fun q => br_t rfl (h0 q))))
    by_cases e : zlim (A (12 + 7 * i)) < A (14 + 7 * i)
    · exact br_f (fun q => by have := (z_sub_le (by omega) (by omega)).mp q; omega) (br_f (by decide) (mov _ (fun _ => z_okB1 (hK _ _)) (fun q => absurd e q)))
    · exact br_t ((z_sub_le (by omega) (by omega)).mpr (by omega)) (br_t rfl (mov _ (fun q => absurd q e) (fun _ => z_okB0 (hK _ _))))
  · refine k_hasN hA.1 j (br_m rfl ⟨rfl, m_isSN hM hA.1 j (br_m rfl ?_)⟩)
    unfold wpX7_isOverdue_L14
    exact m_yes (br_n (by decide) (z_noL (by decide) (hK _ _)))
theorem pc16 {tb : Nat} (htb : tb + 36000 < 2 ^ 29) {v1 : Int32} {t_time : Int32} {s_saltEnd : Nat → Int32} {s_count : Int32} {m_thrown : Int32} {m_s : Nat → Int32} {o : Nat → Int64} {t_store : Int32} {t_rate : Int32} {t_force : Int32} {t_cleared : Int32} {t_ploughed : Int32} {t_failed : Int32} {t_complained : Int32} {s_lower : Nat → Int32} {s_higher : Nat → Int32} {s_kind : Nat → Int32} {s_size : Nat → Int32} {s_snow : Nat → Int32} {s_complained : Nat → Int32} {s_clearings : Nat → Int32} {q_place : Nat → Int32} {q_target : Nat → Int32} {q_minutesLeft : Nat → Int32} {q_waiting : Nat → Int32} {q_orders : Nat → Int32} {q_count : Int32} (hTo : zTo tb t_time t_store t_rate t_force t_cleared t_ploughed t_failed t_complained s_lower s_higher s_kind s_size s_snow s_saltEnd s_complained s_clearings s_count q_place q_target q_minutesLeft q_waiting q_orders q_count m_s) {K : Int32 → (Nat → Int64) → Prop} (hK : ∀ (u1 : Int32) (u2 : Nat → Int64), K u1 u2) : wpL_c16 v1 t_time s_saltEnd s_count m_thrown m_s o K := by
  obtain ⟨A, hAt, hT, hM⟩ := hTo
  obtain ⟨hI, ⟨t0, t3, t4, t5, t6, t7, t8, t9⟩, ⟨rfl, hl, hh, hk, hz, hsn, hse, hco⟩, ⟨rfl, q1, q2, q3, q4, q5⟩, hK9, C, hC, hC4⟩ := hT
  have hA := hI.1
  unfold wpL_c16 wpL_isSalted wpX6_isSalted wpX7_isSalted wpX7_thrown
  by_cases j : ∃ i : Nat, i < A 1 ∧ v1 = nI i
  · obtain ⟨i, hi, rfl⟩ := j
    have g := hI.2.1 i hi
    refine k_hasI hA.1 hi (br_n (by decide) (k_salt hI hse hi ?_))
    rw [t0]
    have mov : ∀ post : Int32 → Int32 → Prop, (A 0 < A (15 + 7 * i) → post 1 0) → (¬ A 0 < A (15 + 7 * i) → post 0 0) → wpX7_isStreet (nI i) m_s (fun r1 => ((¬ r1 = 0 → wpX7_isSalted_L14 (nI i) m_s post 0 m_thrown) ∧ (r1 = 0 → wpX7_isSalted_L14 (nI i) m_s post 1 m_thrown))) := by
      intro post h1 h0
      refine m_isSI hM hA.1 hi (br_n (by decide) ?_)
      unfold wpX7_isSalted_L14
      exact m_no (br_m rfl (m_salted hM (by omega) (by omega) g.2.2.2.2.2.2.2 (fun q => br_f (by decide) (h1 q)) (fun q => br_t rfl (h0 q))))
    by_cases e : A 0 < A (15 + 7 * i)
    · exact br_f (fun q => by have := (z_sub_le (by omega) (by omega)).mp q; omega) (br_f (by decide) (mov _ (fun _ => z_okB1 (hK _ _)) (fun q => absurd e q)))
    · exact br_t ((z_sub_le (by omega) (by omega)).mpr (by omega)) (br_t rfl (mov _ (fun q => absurd q e) (fun _ => z_okB0 (hK _ _))))
  · refine k_hasN hA.1 j (br_m rfl ⟨rfl, m_isSN hM hA.1 j (br_m rfl ?_)⟩)
    unfold wpX7_isSalted_L14
    exact m_yes (br_n (by decide) (z_noL (by decide) (hK _ _)))
theorem pc17 {tb : Nat} (htb : tb + 36000 < 2 ^ 29) {v1 : Int32} {t_time : Int32} {s_saltEnd : Nat → Int32} {s_count : Int32} {m_thrown : Int32} {m_s : Nat → Int32} {o : Nat → Int64} {t_store : Int32} {t_rate : Int32} {t_force : Int32} {t_cleared : Int32} {t_ploughed : Int32} {t_failed : Int32} {t_complained : Int32} {s_lower : Nat → Int32} {s_higher : Nat → Int32} {s_kind : Nat → Int32} {s_size : Nat → Int32} {s_snow : Nat → Int32} {s_complained : Nat → Int32} {s_clearings : Nat → Int32} {q_place : Nat → Int32} {q_target : Nat → Int32} {q_minutesLeft : Nat → Int32} {q_waiting : Nat → Int32} {q_orders : Nat → Int32} {q_count : Int32} (hTo : zTo tb t_time t_store t_rate t_force t_cleared t_ploughed t_failed t_complained s_lower s_higher s_kind s_size s_snow s_saltEnd s_complained s_clearings s_count q_place q_target q_minutesLeft q_waiting q_orders q_count m_s) {K : Int32 → (Nat → Int64) → Prop} (hK : ∀ (u1 : Int32) (u2 : Nat → Int64), K u1 u2) : wpL_c17 v1 t_time s_saltEnd s_count m_thrown m_s o K := by
  obtain ⟨A, hAt, hT, hM⟩ := hTo
  obtain ⟨hI, ⟨t0, t3, t4, t5, t6, t7, t8, t9⟩, ⟨rfl, hl, hh, hk, hz, hsn, hse, hco⟩, ⟨rfl, q1, q2, q3, q4, q5⟩, hK9, C, hC, hC4⟩ := hT
  have hA := hI.1
  unfold wpL_c17 wpL_saltMinutes wpX6_saltMinutes wpX7_saltMinutes wpX7_thrown
  by_cases j : ∃ i : Nat, i < A 1 ∧ v1 = nI i
  · obtain ⟨i, hi, rfl⟩ := j
    have g := hI.2.1 i hi
    refine k_hasI hA.1 hi (br_n (by decide) (k_salt hI hse hi ?_))
    rw [t0]
    have mov : ∀ post : Int32 → Int32 → Prop, (A 0 < A (15 + 7 * i) → post (nI (A (15 + 7 * i)) - nI (A 0)) 0) → (¬ A 0 < A (15 + 7 * i) → post 0 2) → wpX7_isStreet (nI i) m_s (fun r1 => ((¬ r1 = 0 → wpX7_saltMinutes_L14 (nI i) m_s post 0 m_thrown) ∧ (r1 = 0 → wpX7_saltMinutes_L14 (nI i) m_s post 1 m_thrown))) := by
      intro post h1 h0
      refine m_isSI hM hA.1 hi (br_n (by decide) ?_)
      unfold wpX7_saltMinutes_L14
      refine m_no (br_m rfl (m_salted hM (by omega) (by omega) g.2.2.2.2.2.2.2 (fun q => br_n (by decide) ?_) (fun q => br_m rfl ?_)))
      · unfold wpX7_saltMinutes_L35
        refine m_no (br_t rfl (m_of hM i 5 rfl (by omega) ⟨by unfold vp_in; decide, ?_⟩))
        rw [show 10 + 7 * i + 5 = 15 + 7 * i by omega, show (0 : Int32).toNatClampNeg = 0 from rfl, hM 0 (by omega)]
        exact h1 q
      · unfold wpX7_saltMinutes_L35
        exact m_yes (br_f (by decide) (h0 q))
    by_cases e : A 0 < A (15 + 7 * i)
    · exact br_t ((z_sub_lt (by omega) (by omega)).mpr e) (mov _ (fun _ => z_okL (hK _ _)) (fun q => absurd e q))
    · exact br_f (fun q => e ((z_sub_lt (by omega) (by omega)).mp q)) (Or.inr ⟨rfl, mov _ (fun q => absurd q e) (fun _ => z_noL (by decide) (hK _ _))⟩)
  · refine k_hasN hA.1 j (br_m rfl (Or.inl ⟨rfl, m_isSN hM hA.1 j (br_m rfl ?_)⟩))
    unfold wpX7_saltMinutes_L14
    exact m_yes (br_n (by decide) (z_noL (by decide) (hK _ _)))
theorem pc18 {tb : Nat} (htb : tb + 36000 < 2 ^ 29) {v1 : Int32} {s_complained : Nat → Int32} {s_count : Int32} {m_thrown : Int32} {m_s : Nat → Int32} {o : Nat → Int64} {t_time : Int32} {t_store : Int32} {t_rate : Int32} {t_force : Int32} {t_cleared : Int32} {t_ploughed : Int32} {t_failed : Int32} {t_complained : Int32} {s_lower : Nat → Int32} {s_higher : Nat → Int32} {s_kind : Nat → Int32} {s_size : Nat → Int32} {s_snow : Nat → Int32} {s_saltEnd : Nat → Int32} {s_clearings : Nat → Int32} {q_place : Nat → Int32} {q_target : Nat → Int32} {q_minutesLeft : Nat → Int32} {q_waiting : Nat → Int32} {q_orders : Nat → Int32} {q_count : Int32} (hTo : zTo tb t_time t_store t_rate t_force t_cleared t_ploughed t_failed t_complained s_lower s_higher s_kind s_size s_snow s_saltEnd s_complained s_clearings s_count q_place q_target q_minutesLeft q_waiting q_orders q_count m_s) {K : Int32 → (Nat → Int64) → Prop} (hK : ∀ (u1 : Int32) (u2 : Nat → Int64), K u1 u2) : wpL_c18 v1 s_complained s_count m_thrown m_s o K := by
  obtain ⟨A, hAt, hT, hM⟩ := hTo
  obtain ⟨hI, ⟨t0, t3, t4, t5, t6, t7, t8, t9⟩, ⟨rfl, hl, hh, hk, hz, hsn, hse, hco⟩, ⟨rfl, q1, q2, q3, q4, q5⟩, hK9, C, hC, hC4⟩ := hT
  have hA := hI.1
  unfold wpL_c18 wpL_complaints wpX6_complaints wpX7_complaints wpX7_thrown
  by_cases j : ∃ i : Nat, i < A 1 ∧ v1 = nI i
  · obtain ⟨i, hi, rfl⟩ := j
    have g := hI.2.1 i hi
    refine k_hasI hA.1 hi (br_n (by decide) ⟨vp_in_nI (by omega) (by omega), ?_⟩)
    rw [nI_clamp (by omega), hco i hi]
    refine m_ofS hM hA.1 hi 6 rfl (by omega) ?_
    rw [show 10 + 7 * i + 6 = 16 + 7 * i by omega]
    exact z_okL (hK _ _)
  · exact k_hasN hA.1 j (br_m rfl ⟨rfl, m_ofSN hM hA.1 j (z_noL (by decide) (hK _ _))⟩)
theorem pc19 {tb : Nat} (htb : tb + 36000 < 2 ^ 29) {v1 : Int32} {v2 : Int32} {w_reach : Nat → Int32} {w_settled : Nat → Int32} {s_lower : Nat → Int32} {s_higher : Nat → Int32} {s_size : Nat → Int32} {s_count : Int32} {m_thrown : Int32} {m_s : Nat → Int32} {m_far : Nat → Int32} {o : Nat → Int64} {t_time : Int32} {t_store : Int32} {t_rate : Int32} {t_force : Int32} {t_cleared : Int32} {t_ploughed : Int32} {t_failed : Int32} {t_complained : Int32} {s_kind : Nat → Int32} {s_snow : Nat → Int32} {s_saltEnd : Nat → Int32} {s_complained : Nat → Int32} {s_clearings : Nat → Int32} {q_place : Nat → Int32} {q_target : Nat → Int32} {q_minutesLeft : Nat → Int32} {q_waiting : Nat → Int32} {q_orders : Nat → Int32} {q_count : Int32} (hTo : zTo tb t_time t_store t_rate t_force t_cleared t_ploughed t_failed t_complained s_lower s_higher s_kind s_size s_snow s_saltEnd s_complained s_clearings s_count q_place q_target q_minutesLeft q_waiting q_orders q_count m_s) {K : (Nat → Int32) → (Nat → Int32) → Int32 → (Nat → Int32) → (Nat → Int64) → Prop} (hK : ∀ (u1 : Nat → Int32) (u2 : Nat → Int32) (u3 : Int32) (u4 : Nat → Int32) (u5 : Nat → Int64), K u1 u2 u3 u4 u5) : wpL_c19 v1 v2 w_reach w_settled s_lower s_higher s_size s_count m_thrown m_s m_far o K := by
  obtain ⟨A, hAt, hT, hM⟩ := hTo
  obtain ⟨hI, ⟨t0, t3, t4, t5, t6, t7, t8, t9⟩, ⟨rfl, hl, hh, hk, hz, hsn, hse, hco⟩, ⟨rfl, q1, q2, q3, q4, q5⟩, hK9, C, hC, hC4⟩ := hT
  have hA := hI.1
  unfold wpL_c19 wpL_distance wpX6_distance wpX7_distance wpX7_thrown
  have mno : ∀ (x2 : Int32) (post : Int32 → Int32 → (Nat → Int32) → Prop), post 0 1 m_far → wpX7_distance_L20 v1 x2 m_s post 1 m_thrown m_far := by
    intro x2 post h
    unfold wpX7_distance_L20
    exact m_yes (br_f (by decide) h)
  by_cases j1 : ∃ a : Nat, a < 8 ∧ v1 = nI a
  · obtain ⟨a, ha, rfl⟩ := j1
    by_cases j2 : ∃ b : Nat, b < 8 ∧ v2 = nI b
    · obtain ⟨b, hb, rfl⟩ := j2
      have d9 := (zD_sp hI a).2.2.2.2 b
      refine k_isjI ha (br_f (by decide) (k_isjI hb (br_n (by decide) ?_)))
      refine k_meas hI hl hh hz ha (fun f g9 hf => k_reach hf hb ?_)
      have mok : ∀ post : Int32 → Int32 → (Nat → Int32) → Prop, (∀ f, zD A a b < 9999 → post (nI (zD A a b)) 0 f) → (∀ f, ¬ zD A a b < 9999 → post 0 2 f) → wpX7_isJunction (nI a) (fun r1 => ((r1 = 0 → wpX7_distance_L20 (nI a) (nI b) m_s post 1 m_thrown m_far) ∧ (¬ r1 = 0 → wpX7_isJunction (nI b) (fun r7 => ((¬ r7 = 0 → wpX7_distance_L20 (nI a) (nI b) m_s post 0 m_thrown m_far) ∧ (r7 = 0 → wpX7_distance_L20 (nI a) (nI b) m_s post 1 m_thrown m_far)))))) := by
        intro post h1 h0
        refine m_isjI ha (br_f (by decide) (m_isjI hb (br_n (by decide) ?_)))
        unfold wpX7_distance_L20
        refine m_no (br_t rfl (m_finds hI hM ha (fun f2 hf2 => ⟨vp_in_nI hb (by omega), ?_⟩)))
        rw [nI_clamp (by omega), hf2 b hb]
        by_cases e : zD A a b < 9999
        · refine br_t (nI_lt (b := 9999) e (by omega)) ?_
          unfold wpX7_distance_L52
          refine m_no (br_t rfl ⟨vp_in_nI hb (by omega), ?_⟩)
          rw [nI_clamp (by omega), hf2 b hb]
          exact h1 f2 e
        · refine br_f (nI_nlt (b := 9999) (a := zD A a b) (by omega) (by omega)) ?_
          unfold wpX7_distance_L52
          exact m_yes (br_f (by decide) (h0 f2 e))
      by_cases e : zD A a b < 9999
      · rw [show zcd (zD A a b) = zD A a b from if_pos e]
        exact br_t (nI_lt (b := 1000000) (by omega) (by omega)) (mok _ (fun _ _ => z_okL (hK _ _ _ _ _)) (fun _ q => absurd e q))
      · rw [show zcd (zD A a b) = 1000000 from if_neg e]
        exact br_f (by decide) (Or.inr ⟨rfl, mok _ (fun _ q => absurd q e) (fun _ _ => z_noL (by decide) (hK _ _ _ _ _))⟩)
    · exact k_isjI ha (br_f (by decide) (k_isjN j2 (br_m rfl (Or.inl ⟨rfl, m_isjI ha (br_f (by decide) (m_isjN j2 (br_m rfl (mno _ _ (z_noL (by decide) (hK _ _ _ _ _))))))⟩))))
  · exact k_isjN j1 (br_t rfl (Or.inl ⟨rfl, m_isjN j1 (br_t rfl (mno _ _ (z_noL (by decide) (hK _ _ _ _ _))))⟩))
theorem pc20 {tb : Nat} (htb : tb + 36000 < 2 ^ 29) {v1 : Int32} {v2 : Int32} {w_table : Nat → Int32} {s_lower : Nat → Int32} {s_higher : Nat → Int32} {s_size : Nat → Int32} {s_count : Int32} {m_thrown : Int32} {m_s : Nat → Int32} {m_far : Nat → Int32} {o : Nat → Int64} {t_time : Int32} {t_store : Int32} {t_rate : Int32} {t_force : Int32} {t_cleared : Int32} {t_ploughed : Int32} {t_failed : Int32} {t_complained : Int32} {s_kind : Nat → Int32} {s_snow : Nat → Int32} {s_saltEnd : Nat → Int32} {s_complained : Nat → Int32} {s_clearings : Nat → Int32} {q_place : Nat → Int32} {q_target : Nat → Int32} {q_minutesLeft : Nat → Int32} {q_waiting : Nat → Int32} {q_orders : Nat → Int32} {q_count : Int32} (hTo : zTo tb t_time t_store t_rate t_force t_cleared t_ploughed t_failed t_complained s_lower s_higher s_kind s_size s_snow s_saltEnd s_complained s_clearings s_count q_place q_target q_minutesLeft q_waiting q_orders q_count m_s) {K : (Nat → Int32) → Int32 → (Nat → Int32) → (Nat → Int64) → Prop} (hK : ∀ (u1 : Nat → Int32) (u2 : Int32) (u3 : Nat → Int32) (u4 : Nat → Int64), K u1 u2 u3 u4) : wpL_c20 v1 v2 w_table s_lower s_higher s_size s_count m_thrown m_s m_far o K := by
  obtain ⟨A, hAt, hT, hM⟩ := hTo
  obtain ⟨hI, ⟨t0, t3, t4, t5, t6, t7, t8, t9⟩, ⟨rfl, hl, hh, hk, hz, hsn, hse, hco⟩, ⟨rfl, q1, q2, q3, q4, q5⟩, hK9, C, hC, hC4⟩ := hT
  have hA := hI.1
  unfold wpL_c20 wpL_distanceByJunctions wpX6_distanceByJunctions wpX7_distanceByJunctions wpX7_distance wpX7_thrown
  have mno : ∀ (x2 : Int32) (post : Int32 → Int32 → (Nat → Int32) → Prop), post 0 1 m_far → wpX7_distance_L20 v1 x2 m_s post 1 m_thrown m_far := by
    intro x2 post h
    unfold wpX7_distance_L20
    exact m_yes (br_f (by decide) h)
  by_cases j1 : ∃ a : Nat, a < 8 ∧ v1 = nI a
  · obtain ⟨a, ha, rfl⟩ := j1
    by_cases j2 : ∃ b : Nat, b < 8 ∧ v2 = nI b
    · obtain ⟨b, hb, rfl⟩ := j2
      have d9 := (zD_sp hI a).2.2.2.2 b
      refine k_isjI ha (br_f (by decide) (k_isjI hb (br_n (by decide) ?_)))
      refine k_all hI hl hh hz (fun f hf => k_betw hf ha hb ?_)
      have mok : ∀ post : Int32 → Int32 → (Nat → Int32) → Prop, (∀ f, zD A a b < 9999 → post (nI (zD A a b)) 0 f) → (∀ f, ¬ zD A a b < 9999 → post 0 2 f) → wpX7_isJunction (nI a) (fun r1 => ((r1 = 0 → wpX7_distance_L20 (nI a) (nI b) m_s post 1 m_thrown m_far) ∧ (¬ r1 = 0 → wpX7_isJunction (nI b) (fun r7 => ((¬ r7 = 0 → wpX7_distance_L20 (nI a) (nI b) m_s post 0 m_thrown m_far) ∧ (r7 = 0 → wpX7_distance_L20 (nI a) (nI b) m_s post 1 m_thrown m_far)))))) := by
        intro post h1 h0
        refine m_isjI ha (br_f (by decide) (m_isjI hb (br_n (by decide) ?_)))
        unfold wpX7_distance_L20
        refine m_no (br_t rfl (m_finds hI hM ha (fun f2 hf2 => ⟨vp_in_nI hb (by omega), ?_⟩)))
        rw [nI_clamp (by omega), hf2 b hb]
        by_cases e : zD A a b < 9999
        · refine br_t (nI_lt (b := 9999) e (by omega)) ?_
          unfold wpX7_distance_L52
          refine m_no (br_t rfl ⟨vp_in_nI hb (by omega), ?_⟩)
          rw [nI_clamp (by omega), hf2 b hb]
          exact h1 f2 e
        · refine br_f (nI_nlt (b := 9999) (a := zD A a b) (by omega) (by omega)) ?_
          unfold wpX7_distance_L52
          exact m_yes (br_f (by decide) (h0 f2 e))
      by_cases e : zD A a b < 9999
      · rw [show zcd (zD A a b) = zD A a b from if_pos e]
        exact br_t (nI_lt (b := 1000000) (by omega) (by omega)) (mok _ (fun _ _ => z_okL (hK _ _ _ _)) (fun _ q => absurd e q))
      · rw [show zcd (zD A a b) = 1000000 from if_neg e]
        exact br_f (by decide) (Or.inr ⟨rfl, mok _ (fun _ q => absurd q e) (fun _ _ => z_noL (by decide) (hK _ _ _ _))⟩)
    · exact k_isjI ha (br_f (by decide) (k_isjN j2 (br_m rfl (Or.inl ⟨rfl, m_isjI ha (br_f (by decide) (m_isjN j2 (br_m rfl (mno _ _ (z_noL (by decide) (hK _ _ _ _))))))⟩))))
  · exact k_isjN j1 (br_t rfl (Or.inl ⟨rfl, m_isjN j1 (br_t rfl (mno _ _ (z_noL (by decide) (hK _ _ _ _))))⟩))
theorem pc21 {tb : Nat} (htb : tb + 36000 < 2 ^ 29) {v1 : Int32} {s_kind : Nat → Int32} {s_snow : Nat → Int32} {s_count : Int32} {m_thrown : Int32} {m_s : Nat → Int32} {o : Nat → Int64} {t_time : Int32} {t_store : Int32} {t_rate : Int32} {t_force : Int32} {t_cleared : Int32} {t_ploughed : Int32} {t_failed : Int32} {t_complained : Int32} {s_lower : Nat → Int32} {s_higher : Nat → Int32} {s_size : Nat → Int32} {s_saltEnd : Nat → Int32} {s_complained : Nat → Int32} {s_clearings : Nat → Int32} {q_place : Nat → Int32} {q_target : Nat → Int32} {q_minutesLeft : Nat → Int32} {q_waiting : Nat → Int32} {q_orders : Nat → Int32} {q_count : Int32} (hTo : zTo tb t_time t_store t_rate t_force t_cleared t_ploughed t_failed t_complained s_lower s_higher s_kind s_size s_snow s_saltEnd s_complained s_clearings s_count q_place q_target q_minutesLeft q_waiting q_orders q_count m_s) {K : Int32 → (Nat → Int64) → Prop} (hK : ∀ (u1 : Int32) (u2 : Nat → Int64), K u1 u2) : wpL_c21 v1 s_kind s_snow s_count m_thrown m_s o K := by
  obtain ⟨A, hAt, hT, hM⟩ := hTo
  obtain ⟨hI, ⟨t0, t3, t4, t5, t6, t7, t8, t9⟩, ⟨rfl, hl, hh, hk, hz, hsn, hse, hco⟩, ⟨rfl, q1, q2, q3, q4, q5⟩, hK9, C, hC, hC4⟩ := hT
  have hA := hI.1
  unfold wpL_c21 wpL_streetByUrgency wpX6_streetByUrgency wpX7_thrown
  refine k_atRank hI hk hsn (fun y hy e hmin => br_t (nI_pos' (by omega)) (m_urg hI hM (fun y2 hy2 e2 hmin2 => ?_) (fun q => absurd e (q y hy)))) (fun q => br_f (by decide) ⟨rfl, m_urg hI hM (fun y2 hy2 e2 _ => absurd e2 (q y2 hy2)) (fun _ => z_noL (by decide) (hK _ _))⟩)
  have ey : y2 = y := by
    rcases Nat.lt_trichotomy y2 y with w | w | w
    · exact absurd e2 (hmin y2 w)
    · exact w
    · exact absurd e (hmin2 y w)
  subst ey
  exact z_okL (hK _ _)
theorem pc22 {tb : Nat} (htb : tb + 36000 < 2 ^ 29) {q_count : Int32} {m_thrown : Int32} {m_s : Nat → Int32} {t_time : Int32} {t_store : Int32} {t_rate : Int32} {t_force : Int32} {t_cleared : Int32} {t_ploughed : Int32} {t_failed : Int32} {t_complained : Int32} {s_lower : Nat → Int32} {s_higher : Nat → Int32} {s_kind : Nat → Int32} {s_size : Nat → Int32} {s_snow : Nat → Int32} {s_saltEnd : Nat → Int32} {s_complained : Nat → Int32} {s_clearings : Nat → Int32} {s_count : Int32} {q_place : Nat → Int32} {q_target : Nat → Int32} {q_minutesLeft : Nat → Int32} {q_waiting : Nat → Int32} {q_orders : Nat → Int32} (hTo : zTo tb t_time t_store t_rate t_force t_cleared t_ploughed t_failed t_complained s_lower s_higher s_kind s_size s_snow s_saltEnd s_complained s_clearings s_count q_place q_target q_minutesLeft q_waiting q_orders q_count m_s) {K : Int32 → Prop} (hK : ∀ (u1 : Int32), K u1) : wpL_c22 q_count m_thrown m_s K := by
  obtain ⟨A, hAt, hT, hM⟩ := hTo
  obtain ⟨hI, ⟨t0, t3, t4, t5, t6, t7, t8, t9⟩, ⟨rfl, hl, hh, hk, hz, hsn, hse, hco⟩, ⟨rfl, q1, q2, q3, q4, q5⟩, hK9, C, hC, hC4⟩ := hT
  unfold wpL_c22 wpX6_ploughCount wpX7_ploughCount
  refine ⟨by unfold vp_in; decide, z_eqv ?_ (hK _)⟩
  rw [show (2 : Int32).toNatClampNeg = 2 from rfl, hM 2 (by omega)]
theorem pc23 {tb : Nat} (htb : tb + 36000 < 2 ^ 29) {v1 : Int32} {q_minutesLeft : Nat → Int32} {q_count : Int32} {m_thrown : Int32} {m_s : Nat → Int32} {o : Nat → Int64} {t_time : Int32} {t_store : Int32} {t_rate : Int32} {t_force : Int32} {t_cleared : Int32} {t_ploughed : Int32} {t_failed : Int32} {t_complained : Int32} {s_lower : Nat → Int32} {s_higher : Nat → Int32} {s_kind : Nat → Int32} {s_size : Nat → Int32} {s_snow : Nat → Int32} {s_saltEnd : Nat → Int32} {s_complained : Nat → Int32} {s_clearings : Nat → Int32} {s_count : Int32} {q_place : Nat → Int32} {q_target : Nat → Int32} {q_waiting : Nat → Int32} {q_orders : Nat → Int32} (hTo : zTo tb t_time t_store t_rate t_force t_cleared t_ploughed t_failed t_complained s_lower s_higher s_kind s_size s_snow s_saltEnd s_complained s_clearings s_count q_place q_target q_minutesLeft q_waiting q_orders q_count m_s) {K : Int32 → (Nat → Int64) → Prop} (hK : ∀ (u1 : Int32) (u2 : Nat → Int64), K u1 u2) : wpL_c23 v1 q_minutesLeft q_count m_thrown m_s o K := by
  obtain ⟨A, hAt, hT, hM⟩ := hTo
  obtain ⟨hI, ⟨t0, t3, t4, t5, t6, t7, t8, t9⟩, ⟨rfl, hl, hh, hk, hz, hsn, hse, hco⟩, ⟨rfl, q1, q2, q3, q4, q5⟩, hK9, C, hC, hC4⟩ := hT
  have hA := hI.1
  unfold wpL_c23 wpL_isBusy wpX6_isBusy wpX7_isBusy wpX7_thrown
  by_cases j : ∃ i : Nat, i < A 2 ∧ v1 = nI i
  · obtain ⟨i, hi, rfl⟩ := j
    have g := zI_pl hI hi
    refine k_pasI hA.2.1 hi (br_n (by decide) ⟨vp_in_nI (by omega) (by omega), ?_⟩)
    rw [nI_clamp (by omega), q3 i hi]
    dsimp only
    have g2 := g.2.1
    by_cases e : A (95 + 9 * i) = 0
    · refine br_t (by rw [e]; decide) (br_t rfl (m_tlP hM hA.2.1 hi 1 rfl (by omega) ?_))
      rw [show 94 + 9 * i + 1 = 95 + 9 * i by omega, e]
      exact br_t (by decide) (z_okB0 (hK _ _))
    · refine br_f (nI_nle (by omega) (by omega)) (br_f (by decide) (m_tlP hM hA.2.1 hi 1 rfl (by omega) ?_))
      rw [show 94 + 9 * i + 1 = 95 + 9 * i by omega]
      exact br_f (nI_nle (by omega) (by omega)) (z_okB1 (hK _ _))
  · exact k_pasN hA.2.1 j (br_m rfl ⟨rfl, m_tlPN hM hA.2.1 j (br_t (by decide) (z_noL (by decide) (hK _ _)))⟩)
theorem pc24 {tb : Nat} (htb : tb + 36000 < 2 ^ 29) {v1 : Int32} {q_place : Nat → Int32} {q_count : Int32} {m_thrown : Int32} {m_s : Nat → Int32} {o : Nat → Int64} {t_time : Int32} {t_store : Int32} {t_rate : Int32} {t_force : Int32} {t_cleared : Int32} {t_ploughed : Int32} {t_failed : Int32} {t_complained : Int32} {s_lower : Nat → Int32} {s_higher : Nat → Int32} {s_kind : Nat → Int32} {s_size : Nat → Int32} {s_snow : Nat → Int32} {s_saltEnd : Nat → Int32} {s_complained : Nat → Int32} {s_clearings : Nat → Int32} {s_count : Int32} {q_target : Nat → Int32} {q_minutesLeft : Nat → Int32} {q_waiting : Nat → Int32} {q_orders : Nat → Int32} (hTo : zTo tb t_time t_store t_rate t_force t_cleared t_ploughed t_failed t_complained s_lower s_higher s_kind s_size s_snow s_saltEnd s_complained s_clearings s_count q_place q_target q_minutesLeft q_waiting q_orders q_count m_s) {K : Int32 → (Nat → Int64) → Prop} (hK : ∀ (u1 : Int32) (u2 : Nat → Int64), K u1 u2) : wpL_c24 v1 q_place q_count m_thrown m_s o K := by
  obtain ⟨A, hAt, hT, hM⟩ := hTo
  obtain ⟨hI, ⟨t0, t3, t4, t5, t6, t7, t8, t9⟩, ⟨rfl, hl, hh, hk, hz, hsn, hse, hco⟩, ⟨rfl, q1, q2, q3, q4, q5⟩, hK9, C, hC, hC4⟩ := hT
  have hA := hI.1
  unfold wpL_c24 wpL_junction wpX6_junction wpX7_junction wpX7_thrown
  by_cases j : ∃ i : Nat, i < A 2 ∧ v1 = nI i
  · obtain ⟨i, hi, rfl⟩ := j
    have g := zI_pl hI hi
    refine k_pasI hA.2.1 hi (br_n (by decide) ⟨vp_in_nI (by omega) (by omega), ?_⟩)
    rw [nI_clamp (by omega), q1 i hi]
    refine m_tlP hM hA.2.1 hi 0 rfl (by omega) ?_
    rw [show 94 + 9 * i + 0 = 94 + 9 * i by omega]
    exact z_okL (hK _ _)
  · exact k_pasN hA.2.1 j (br_m rfl ⟨rfl, m_tlPN hM hA.2.1 j (z_noL (by decide) (hK _ _))⟩)
theorem pc25 {tb : Nat} (htb : tb + 36000 < 2 ^ 29) {v1 : Int32} {q_target : Nat → Int32} {q_minutesLeft : Nat → Int32} {q_count : Int32} {m_thrown : Int32} {m_s : Nat → Int32} {o : Nat → Int64} {t_time : Int32} {t_store : Int32} {t_rate : Int32} {t_force : Int32} {t_cleared : Int32} {t_ploughed : Int32} {t_failed : Int32} {t_complained : Int32} {s_lower : Nat → Int32} {s_higher : Nat → Int32} {s_kind : Nat → Int32} {s_size : Nat → Int32} {s_snow : Nat → Int32} {s_saltEnd : Nat → Int32} {s_complained : Nat → Int32} {s_clearings : Nat → Int32} {s_count : Int32} {q_place : Nat → Int32} {q_waiting : Nat → Int32} {q_orders : Nat → Int32} (hTo : zTo tb t_time t_store t_rate t_force t_cleared t_ploughed t_failed t_complained s_lower s_higher s_kind s_size s_snow s_saltEnd s_complained s_clearings s_count q_place q_target q_minutesLeft q_waiting q_orders q_count m_s) {K : Int32 → (Nat → Int64) → Prop} (hK : ∀ (u1 : Int32) (u2 : Nat → Int64), K u1 u2) : wpL_c25 v1 q_target q_minutesLeft q_count m_thrown m_s o K := by
  obtain ⟨A, hAt, hT, hM⟩ := hTo
  obtain ⟨hI, ⟨t0, t3, t4, t5, t6, t7, t8, t9⟩, ⟨rfl, hl, hh, hk, hz, hsn, hse, hco⟩, ⟨rfl, q1, q2, q3, q4, q5⟩, hK9, C, hC, hC4⟩ := hT
  have hA := hI.1
  unfold wpL_c25 wpL_currentStreet wpX6_currentStreet wpX7_currentStreet wpX7_thrown
  by_cases j : ∃ i : Nat, i < A 2 ∧ v1 = nI i
  · obtain ⟨i, hi, rfl⟩ := j
    have g := zI_pl hI hi
    have g2 := g.2.1
    refine k_pasI hA.2.1 hi (br_n (by decide) ⟨vp_in_nI (by omega) (by omega), ?_⟩)
    rw [nI_clamp (by omega), q3 i hi]
    dsimp only
    have mov : ∀ post : Int32 → Int32 → Prop, (0 < A (95 + 9 * i) → post (nI (A (96 + 9 * i))) 0) → (¬ 0 < A (95 + 9 * i) → post 0 2) → wpX7_isPlough (nI i) m_s (fun r1 => ((¬ r1 = 0 → wpX7_currentStreet_L14 (nI i) m_s post 0 m_thrown) ∧ (r1 = 0 → wpX7_currentStreet_L14 (nI i) m_s post 1 m_thrown))) := by
      intro post h1 h0
      refine m_isPI hM hA.2.1 hi (br_n (by decide) ?_)
      unfold wpX7_currentStreet_L14
      refine m_no (br_m rfl (m_ofP hM i 1 rfl (by omega) ?_))
      rw [show 94 + 9 * i + 1 = 95 + 9 * i by omega]
      by_cases e : 0 < A (95 + 9 * i)
      · refine br_n (nI_ne0 e (by omega)) ?_
        unfold wpX7_currentStreet_L36
        refine m_no (br_t rfl (m_ofP hM i 2 rfl (by omega) ?_))
        rw [show 94 + 9 * i + 2 = 96 + 9 * i by omega]
        exact h1 e
      · refine br_m (by rw [show A (95 + 9 * i) = 0 by omega]; rfl) ?_
        unfold wpX7_currentStreet_L36
        exact m_yes (br_f (by decide) (h0 e))
    by_cases e : 0 < A (95 + 9 * i)
    · refine br_t (nI_lt (a := 0) e (by omega)) ⟨vp_in_nI (by omega) (by omega), ?_⟩
      rw [q2 i hi e]
      exact mov _ (fun _ => z_okL (hK _ _)) (fun q => absurd e q)
    · exact br_f (by rw [show A (95 + 9 * i) = 0 by omega]; decide) (Or.inr ⟨rfl, mov _ (fun q => absurd q e) (fun _ => z_noL (by decide) (hK _ _))⟩)
  · refine k_pasN hA.2.1 j (br_m rfl (Or.inl ⟨rfl, m_isPN hM hA.2.1 j (br_m rfl ?_)⟩))
    unfold wpX7_currentStreet_L14
    exact m_yes (br_n (by decide) (z_noL (by decide) (hK _ _)))
theorem pc26 {tb : Nat} (htb : tb + 36000 < 2 ^ 29) {v1 : Int32} {q_minutesLeft : Nat → Int32} {q_count : Int32} {m_thrown : Int32} {m_s : Nat → Int32} {o : Nat → Int64} {t_time : Int32} {t_store : Int32} {t_rate : Int32} {t_force : Int32} {t_cleared : Int32} {t_ploughed : Int32} {t_failed : Int32} {t_complained : Int32} {s_lower : Nat → Int32} {s_higher : Nat → Int32} {s_kind : Nat → Int32} {s_size : Nat → Int32} {s_snow : Nat → Int32} {s_saltEnd : Nat → Int32} {s_complained : Nat → Int32} {s_clearings : Nat → Int32} {s_count : Int32} {q_place : Nat → Int32} {q_target : Nat → Int32} {q_waiting : Nat → Int32} {q_orders : Nat → Int32} (hTo : zTo tb t_time t_store t_rate t_force t_cleared t_ploughed t_failed t_complained s_lower s_higher s_kind s_size s_snow s_saltEnd s_complained s_clearings s_count q_place q_target q_minutesLeft q_waiting q_orders q_count m_s) {K : Int32 → (Nat → Int64) → Prop} (hK : ∀ (u1 : Int32) (u2 : Nat → Int64), K u1 u2) : wpL_c26 v1 q_minutesLeft q_count m_thrown m_s o K := by
  obtain ⟨A, hAt, hT, hM⟩ := hTo
  obtain ⟨hI, ⟨t0, t3, t4, t5, t6, t7, t8, t9⟩, ⟨rfl, hl, hh, hk, hz, hsn, hse, hco⟩, ⟨rfl, q1, q2, q3, q4, q5⟩, hK9, C, hC, hC4⟩ := hT
  have hA := hI.1
  unfold wpL_c26 wpL_busyMinutes wpX6_busyMinutes wpX7_busyMinutes wpX7_thrown
  by_cases j : ∃ i : Nat, i < A 2 ∧ v1 = nI i
  · obtain ⟨i, hi, rfl⟩ := j
    have g := zI_pl hI hi
    refine k_pasI hA.2.1 hi (br_n (by decide) ⟨vp_in_nI (by omega) (by omega), ?_⟩)
    rw [nI_clamp (by omega), q3 i hi]
    refine m_tlP hM hA.2.1 hi 1 rfl (by omega) ?_
    rw [show 94 + 9 * i + 1 = 95 + 9 * i by omega]
    exact z_okL (hK _ _)
  · exact k_pasN hA.2.1 j (br_m rfl ⟨rfl, m_tlPN hM hA.2.1 j (z_noL (by decide) (hK _ _))⟩)
theorem pc27 {tb : Nat} (htb : tb + 36000 < 2 ^ 29) {v1 : Int32} {q_waiting : Nat → Int32} {q_count : Int32} {m_thrown : Int32} {m_s : Nat → Int32} {o : Nat → Int64} {t_time : Int32} {t_store : Int32} {t_rate : Int32} {t_force : Int32} {t_cleared : Int32} {t_ploughed : Int32} {t_failed : Int32} {t_complained : Int32} {s_lower : Nat → Int32} {s_higher : Nat → Int32} {s_kind : Nat → Int32} {s_size : Nat → Int32} {s_snow : Nat → Int32} {s_saltEnd : Nat → Int32} {s_complained : Nat → Int32} {s_clearings : Nat → Int32} {s_count : Int32} {q_place : Nat → Int32} {q_target : Nat → Int32} {q_minutesLeft : Nat → Int32} {q_orders : Nat → Int32} (hTo : zTo tb t_time t_store t_rate t_force t_cleared t_ploughed t_failed t_complained s_lower s_higher s_kind s_size s_snow s_saltEnd s_complained s_clearings s_count q_place q_target q_minutesLeft q_waiting q_orders q_count m_s) {K : Int32 → (Nat → Int64) → Prop} (hK : ∀ (u1 : Int32) (u2 : Nat → Int64), K u1 u2) : wpL_c27 v1 q_waiting q_count m_thrown m_s o K := by
  obtain ⟨A, hAt, hT, hM⟩ := hTo
  obtain ⟨hI, ⟨t0, t3, t4, t5, t6, t7, t8, t9⟩, ⟨rfl, hl, hh, hk, hz, hsn, hse, hco⟩, ⟨rfl, q1, q2, q3, q4, q5⟩, hK9, C, hC, hC4⟩ := hT
  have hA := hI.1
  unfold wpL_c27 wpL_queueLength wpX6_queueLength wpX7_queueLength wpX7_thrown
  by_cases j : ∃ i : Nat, i < A 2 ∧ v1 = nI i
  · obtain ⟨i, hi, rfl⟩ := j
    have g := zI_pl hI hi
    refine k_pasI hA.2.1 hi (br_n (by decide) ⟨vp_in_nI (by omega) (by omega), ?_⟩)
    rw [nI_clamp (by omega), q4 i hi]
    refine m_tlP hM hA.2.1 hi 3 rfl (by omega) ?_
    rw [show 94 + 9 * i + 3 = 97 + 9 * i by omega]
    exact z_okL (hK _ _)
  · exact k_pasN hA.2.1 j (br_m rfl ⟨rfl, m_tlPN hM hA.2.1 j (z_noL (by decide) (hK _ _))⟩)
theorem pc28 {tb : Nat} (htb : tb + 36000 < 2 ^ 29) {v1 : Int32} {v2 : Int32} {q_waiting : Nat → Int32} {q_orders : Nat → Int32} {q_count : Int32} {m_thrown : Int32} {m_s : Nat → Int32} {o : Nat → Int64} {t_time : Int32} {t_store : Int32} {t_rate : Int32} {t_force : Int32} {t_cleared : Int32} {t_ploughed : Int32} {t_failed : Int32} {t_complained : Int32} {s_lower : Nat → Int32} {s_higher : Nat → Int32} {s_kind : Nat → Int32} {s_size : Nat → Int32} {s_snow : Nat → Int32} {s_saltEnd : Nat → Int32} {s_complained : Nat → Int32} {s_clearings : Nat → Int32} {s_count : Int32} {q_place : Nat → Int32} {q_target : Nat → Int32} {q_minutesLeft : Nat → Int32} (hTo : zTo tb t_time t_store t_rate t_force t_cleared t_ploughed t_failed t_complained s_lower s_higher s_kind s_size s_snow s_saltEnd s_complained s_clearings s_count q_place q_target q_minutesLeft q_waiting q_orders q_count m_s) {K : Int32 → (Nat → Int64) → Prop} (hK : ∀ (u1 : Int32) (u2 : Nat → Int64), K u1 u2) : wpL_c28 v1 v2 q_waiting q_orders q_count m_thrown m_s o K := by
  obtain ⟨A, hAt, hT, hM⟩ := hTo
  obtain ⟨hI, ⟨t0, t3, t4, t5, t6, t7, t8, t9⟩, ⟨rfl, hl, hh, hk, hz, hsn, hse, hco⟩, ⟨rfl, q1, q2, q3, q4, q5⟩, hK9, C, hC, hC4⟩ := hT
  have hA := hI.1
  unfold wpL_c28 wpL_queuedStreet wpX6_queuedStreet wpX7_queuedStreet wpX7_thrown
  by_cases j : ∃ i : Nat, i < A 2 ∧ v1 = nI i
  · obtain ⟨i, hi, rfl⟩ := j
    have g := zI_pl hI hi
    have g5 := g.2.2.2.1
    refine k_pasI hA.2.1 hi (br_n (by decide) ?_)
    have mov : ∀ post : Int32 → Int32 → Prop, (∀ k : Nat, k < A (97 + 9 * i) → v2 = nI k → post (nI (A (98 + 9 * i + k))) 0) → ((¬ ∃ k : Nat, k < A (97 + 9 * i) ∧ v2 = nI k) → post 0 2) → wpX7_isPlough (nI i) m_s (fun r1 => ((¬ r1 = 0 → wpX7_queuedStreet_L14 (nI i) v2 m_s post 0 m_thrown) ∧ (r1 = 0 → wpX7_queuedStreet_L14 (nI i) v2 m_s post 1 m_thrown))) := by
      intro post h1 h0
      refine m_isPI hM hA.2.1 hi (br_n (by decide) ?_)
      unfold wpX7_queuedStreet_L14
      refine m_no (br_m rfl (m_ofP hM i 3 rfl (by omega) ?_))
      rw [show 94 + 9 * i + 3 = 97 + 9 * i by omega]
      refine m_inC (by omega) (fun k hk e => br_n (by decide) ?_) (fun q => br_m rfl ?_)
      · unfold wpX7_queuedStreet_L43
        refine m_no (br_t rfl ?_)
        subst e
        refine m_ofP hM i (4 + k) (nI_add 4 k) (by omega) ?_
        rw [show 94 + 9 * i + (4 + k) = 98 + 9 * i + k by omega]
        exact h1 k hk rfl
      · unfold wpX7_queuedStreet_L43
        exact m_yes (br_f (by decide) (h0 q))
    refine k_waitAt hI q4 q5 hi (fun k hk e => ?_) (fun q => br_f (by decide) (Or.inr ⟨rfl, mov _ (fun k hk e => absurd ⟨k, hk, e⟩ q) (fun _ => z_noL (by decide) (hK _ _))⟩))
    have hlt := g.2.2.2.2 k hk
    refine br_t (nI_pos' (by omega)) (mov _ (fun k2 hk2 e2 => ?_) (fun q => absurd ⟨k, hk, e⟩ q))
    have ek : k2 = k := (nI_eq (by omega) (by omega)).mp (e2.symm.trans e)
    subst ek
    exact z_okL (hK _ _)
  · refine k_pasN hA.2.1 j (br_m rfl (Or.inl ⟨rfl, m_isPN hM hA.2.1 j (br_m rfl ?_)⟩))
    unfold wpX7_queuedStreet_L14
    exact m_yes (br_n (by decide) (z_noL (by decide) (hK _ _)))
theorem pc29 {tb : Nat} (htb : tb + 36000 < 2 ^ 29) {v1 : Int32} {v2 : Int32} {w_reach : Nat → Int32} {w_settled : Nat → Int32} {s_lower : Nat → Int32} {s_higher : Nat → Int32} {s_size : Nat → Int32} {s_count : Int32} {q_place : Nat → Int32} {q_count : Int32} {m_thrown : Int32} {m_s : Nat → Int32} {m_far : Nat → Int32} {o : Nat → Int64} {t_time : Int32} {t_store : Int32} {t_rate : Int32} {t_force : Int32} {t_cleared : Int32} {t_ploughed : Int32} {t_failed : Int32} {t_complained : Int32} {s_kind : Nat → Int32} {s_snow : Nat → Int32} {s_saltEnd : Nat → Int32} {s_complained : Nat → Int32} {s_clearings : Nat → Int32} {q_target : Nat → Int32} {q_minutesLeft : Nat → Int32} {q_waiting : Nat → Int32} {q_orders : Nat → Int32} (hTo : zTo tb t_time t_store t_rate t_force t_cleared t_ploughed t_failed t_complained s_lower s_higher s_kind s_size s_snow s_saltEnd s_complained s_clearings s_count q_place q_target q_minutesLeft q_waiting q_orders q_count m_s) {K : (Nat → Int32) → (Nat → Int32) → Int32 → (Nat → Int32) → (Nat → Int64) → Prop} (hK : ∀ (u1 : Nat → Int32) (u2 : Nat → Int32) (u3 : Int32) (u4 : Nat → Int32) (u5 : Nat → Int64), K u1 u2 u3 u4 u5) : wpL_c29 v1 v2 w_reach w_settled s_lower s_higher s_size s_count q_place q_count m_thrown m_s m_far o K := by
  obtain ⟨A, hAt, hT, hM⟩ := hTo
  obtain ⟨hI, ⟨t0, t3, t4, t5, t6, t7, t8, t9⟩, ⟨rfl, hl, hh, hk, hz, hsn, hse, hco⟩, ⟨rfl, q1, q2, q3, q4, q5⟩, hK9, C, hC, hC4⟩ := hT
  have hA := hI.1
  unfold wpL_c29 wpL_orderMinutes wpX6_orderMinutes wpX7_orderMinutes wpX7_thrown
  have mno : ∀ (x1 x2 : Int32) (post : Int32 → Int32 → (Nat → Int32) → Prop), post 0 1 m_far → wpX7_orderMinutes_L22 x1 x2 m_s post 1 m_thrown m_far := by
    intro x1 x2 post h
    unfold wpX7_orderMinutes_L22
    exact m_yes (br_f (by decide) h)
  by_cases j1 : ∃ j : Nat, j < A 2 ∧ v1 = nI j
  · obtain ⟨j, hj, rfl⟩ := j1
    by_cases j2 : ∃ i : Nat, i < A 1 ∧ v2 = nI i
    · obtain ⟨i, hi, rfl⟩ := j2
      have g := zI_pl hI hj
      have gs := hI.2.1 i hi
      have mok : ∀ post : Int32 → Int32 → (Nat → Int32) → Prop, (∀ f, znr A (A (94 + 9 * j)) i < 9999 → post (nI (2 * znr A (A (94 + 9 * j)) i + 4 * A (13 + 7 * i))) 0 f) → (∀ f, ¬ znr A (A (94 + 9 * j)) i < 9999 → post 0 2 f) → wpX7_isPlough (nI j) m_s (fun r1 => ((r1 = 0 → wpX7_orderMinutes_L22 (nI j) (nI i) m_s post 1 m_thrown m_far) ∧ (¬ r1 = 0 → wpX7_isStreet (nI i) m_s (fun r7 => ((¬ r7 = 0 → wpX7_orderMinutes_L22 (nI j) (nI i) m_s post 0 m_thrown m_far) ∧ (r7 = 0 → wpX7_orderMinutes_L22 (nI j) (nI i) m_s post 1 m_thrown m_far)))))) := by
        intro post h1 h0
        refine m_isPI hM hA.2.1 hj (br_f (by decide) (m_isSI hM hA.1 hi (br_n (by decide) ?_)))
        unfold wpX7_orderMinutes_L22
        refine m_no (br_t rfl (m_ofP hM j 0 rfl (by omega) ?_))
        rw [show 94 + 9 * j + 0 = 94 + 9 * j by omega]
        refine m_minutes hI hM g.1 hi (fun f _ => ⟨fun e => ?_, fun e => ?_⟩)
        · have hn := znr_le hI hi e
          exact br_t (nI_pos' (by omega)) (m_no (br_t rfl (h1 f e)))
        · exact br_f (by decide) (m_yes (br_f (by decide) (h0 f e)))
      refine k_pasI hA.2.1 hj (br_f (by decide) (k_hasI hA.1 hi (br_n (by decide) (k_minutesFor hI hl hh hz q1 hj hi (fun f g9 _ => ⟨fun e => ?_, fun e => ?_⟩)))))
      · have hn := znr_le hI hi e
        exact br_t (nI_lt (b := 1000000) (by omega) (by omega)) (mok _ (fun _ _ => z_okL (hK _ _ _ _ _)) (fun _ q => absurd e q))
      · exact br_f (by decide) (Or.inr ⟨rfl, mok _ (fun _ q => absurd q e) (fun _ _ => z_noL (by decide) (hK _ _ _ _ _))⟩)
    · exact k_pasI hA.2.1 hj (br_f (by decide) (k_hasN hA.1 j2 (br_m rfl (Or.inl ⟨rfl, m_isPI hM hA.2.1 hj (br_f (by decide) (m_isSN hM hA.1 j2 (br_m rfl (mno _ _ _ (z_noL (by decide) (hK _ _ _ _ _))))))⟩))))
  · exact k_pasN hA.2.1 j1 (br_t rfl (Or.inl ⟨rfl, m_isPN hM hA.2.1 j1 (br_t rfl (mno _ _ _ (z_noL (by decide) (hK _ _ _ _ _))))⟩))
theorem pc32 {tb : Nat} (htb : tb + 36000 < 2 ^ 29) {t_time : Int32} {m_thrown : Int32} {m_s : Nat → Int32} {t_store : Int32} {t_rate : Int32} {t_force : Int32} {t_cleared : Int32} {t_ploughed : Int32} {t_failed : Int32} {t_complained : Int32} {s_lower : Nat → Int32} {s_higher : Nat → Int32} {s_kind : Nat → Int32} {s_size : Nat → Int32} {s_snow : Nat → Int32} {s_saltEnd : Nat → Int32} {s_complained : Nat → Int32} {s_clearings : Nat → Int32} {s_count : Int32} {q_place : Nat → Int32} {q_target : Nat → Int32} {q_minutesLeft : Nat → Int32} {q_waiting : Nat → Int32} {q_orders : Nat → Int32} {q_count : Int32} (hTo : zTo tb t_time t_store t_rate t_force t_cleared t_ploughed t_failed t_complained s_lower s_higher s_kind s_size s_snow s_saltEnd s_complained s_clearings s_count q_place q_target q_minutesLeft q_waiting q_orders q_count m_s) {K : Int32 → Prop} (hK : ∀ (u1 : Int32), K u1) : wpL_c32 t_time m_thrown m_s K := by
  obtain ⟨A, hAt, hT, hM⟩ := hTo
  obtain ⟨hI, ⟨t0, t3, t4, t5, t6, t7, t8, t9⟩, ⟨rfl, hl, hh, hk, hz, hsn, hse, hco⟩, ⟨rfl, q1, q2, q3, q4, q5⟩, hK9, C, hC, hC4⟩ := hT
  unfold wpL_c32 wpX6_time wpX7_time
  refine ⟨by unfold vp_in; decide, z_eqv ?_ (hK _)⟩
  rw [t0, show (0 : Int32).toNatClampNeg = 0 from rfl, hM 0 (by omega)]
theorem pc33 {tb : Nat} (htb : tb + 36000 < 2 ^ 29) {t_store : Int32} {m_thrown : Int32} {m_s : Nat → Int32} {t_time : Int32} {t_rate : Int32} {t_force : Int32} {t_cleared : Int32} {t_ploughed : Int32} {t_failed : Int32} {t_complained : Int32} {s_lower : Nat → Int32} {s_higher : Nat → Int32} {s_kind : Nat → Int32} {s_size : Nat → Int32} {s_snow : Nat → Int32} {s_saltEnd : Nat → Int32} {s_complained : Nat → Int32} {s_clearings : Nat → Int32} {s_count : Int32} {q_place : Nat → Int32} {q_target : Nat → Int32} {q_minutesLeft : Nat → Int32} {q_waiting : Nat → Int32} {q_orders : Nat → Int32} {q_count : Int32} (hTo : zTo tb t_time t_store t_rate t_force t_cleared t_ploughed t_failed t_complained s_lower s_higher s_kind s_size s_snow s_saltEnd s_complained s_clearings s_count q_place q_target q_minutesLeft q_waiting q_orders q_count m_s) {K : Int32 → Prop} (hK : ∀ (u1 : Int32), K u1) : wpL_c33 t_store m_thrown m_s K := by
  obtain ⟨A, hAt, hT, hM⟩ := hTo
  obtain ⟨hI, ⟨t0, t3, t4, t5, t6, t7, t8, t9⟩, ⟨rfl, hl, hh, hk, hz, hsn, hse, hco⟩, ⟨rfl, q1, q2, q3, q4, q5⟩, hK9, C, hC, hC4⟩ := hT
  unfold wpL_c33 wpX6_saltStore wpX7_saltStore
  refine ⟨by unfold vp_in; decide, z_eqv ?_ (hK _)⟩
  rw [t3, show (3 : Int32).toNatClampNeg = 3 from rfl, hM 3 (by omega)]
theorem pc34 {tb : Nat} (htb : tb + 36000 < 2 ^ 29) {t_rate : Int32} {m_thrown : Int32} {m_s : Nat → Int32} {t_time : Int32} {t_store : Int32} {t_force : Int32} {t_cleared : Int32} {t_ploughed : Int32} {t_failed : Int32} {t_complained : Int32} {s_lower : Nat → Int32} {s_higher : Nat → Int32} {s_kind : Nat → Int32} {s_size : Nat → Int32} {s_snow : Nat → Int32} {s_saltEnd : Nat → Int32} {s_complained : Nat → Int32} {s_clearings : Nat → Int32} {s_count : Int32} {q_place : Nat → Int32} {q_target : Nat → Int32} {q_minutesLeft : Nat → Int32} {q_waiting : Nat → Int32} {q_orders : Nat → Int32} {q_count : Int32} (hTo : zTo tb t_time t_store t_rate t_force t_cleared t_ploughed t_failed t_complained s_lower s_higher s_kind s_size s_snow s_saltEnd s_complained s_clearings s_count q_place q_target q_minutesLeft q_waiting q_orders q_count m_s) {K : Int32 → Prop} (hK : ∀ (u1 : Int32), K u1) : wpL_c34 t_rate m_thrown m_s K := by
  obtain ⟨A, hAt, hT, hM⟩ := hTo
  obtain ⟨hI, ⟨t0, t3, t4, t5, t6, t7, t8, t9⟩, ⟨rfl, hl, hh, hk, hz, hsn, hse, hco⟩, ⟨rfl, q1, q2, q3, q4, q5⟩, hK9, C, hC, hC4⟩ := hT
  unfold wpL_c34 wpX6_snowfall wpX7_snowfall
  refine ⟨by unfold vp_in; decide, z_eqv ?_ (hK _)⟩
  rw [t4, show (4 : Int32).toNatClampNeg = 4 from rfl, hM 4 (by omega)]
theorem pc35 {tb : Nat} (htb : tb + 36000 < 2 ^ 29) {t_force : Int32} {m_thrown : Int32} {m_s : Nat → Int32} {t_time : Int32} {t_store : Int32} {t_rate : Int32} {t_cleared : Int32} {t_ploughed : Int32} {t_failed : Int32} {t_complained : Int32} {s_lower : Nat → Int32} {s_higher : Nat → Int32} {s_kind : Nat → Int32} {s_size : Nat → Int32} {s_snow : Nat → Int32} {s_saltEnd : Nat → Int32} {s_complained : Nat → Int32} {s_clearings : Nat → Int32} {s_count : Int32} {q_place : Nat → Int32} {q_target : Nat → Int32} {q_minutesLeft : Nat → Int32} {q_waiting : Nat → Int32} {q_orders : Nat → Int32} {q_count : Int32} (hTo : zTo tb t_time t_store t_rate t_force t_cleared t_ploughed t_failed t_complained s_lower s_higher s_kind s_size s_snow s_saltEnd s_complained s_clearings s_count q_place q_target q_minutesLeft q_waiting q_orders q_count m_s) {K : Int32 → Prop} (hK : ∀ (u1 : Int32), K u1) : wpL_c35 t_force m_thrown m_s K := by
  obtain ⟨A, hAt, hT, hM⟩ := hTo
  obtain ⟨hI, ⟨t0, t3, t4, t5, t6, t7, t8, t9⟩, ⟨rfl, hl, hh, hk, hz, hsn, hse, hco⟩, ⟨rfl, q1, q2, q3, q4, q5⟩, hK9, C, hC, hC4⟩ := hT
  unfold wpL_c35 wpX6_wind wpX7_wind
  refine ⟨by unfold vp_in; decide, z_eqv ?_ (hK _)⟩
  rw [t5, show (5 : Int32).toNatClampNeg = 5 from rfl, hM 5 (by omega)]
theorem pc36 {tb : Nat} (htb : tb + 36000 < 2 ^ 29) {t_cleared : Int32} {m_thrown : Int32} {m_s : Nat → Int32} {t_time : Int32} {t_store : Int32} {t_rate : Int32} {t_force : Int32} {t_ploughed : Int32} {t_failed : Int32} {t_complained : Int32} {s_lower : Nat → Int32} {s_higher : Nat → Int32} {s_kind : Nat → Int32} {s_size : Nat → Int32} {s_snow : Nat → Int32} {s_saltEnd : Nat → Int32} {s_complained : Nat → Int32} {s_clearings : Nat → Int32} {s_count : Int32} {q_place : Nat → Int32} {q_target : Nat → Int32} {q_minutesLeft : Nat → Int32} {q_waiting : Nat → Int32} {q_orders : Nat → Int32} {q_count : Int32} (hTo : zTo tb t_time t_store t_rate t_force t_cleared t_ploughed t_failed t_complained s_lower s_higher s_kind s_size s_snow s_saltEnd s_complained s_clearings s_count q_place q_target q_minutesLeft q_waiting q_orders q_count m_s) {K : Int32 → Prop} (hK : ∀ (u1 : Int32), K u1) : wpL_c36 t_cleared m_thrown m_s K := by
  obtain ⟨A, hAt, hT, hM⟩ := hTo
  obtain ⟨hI, ⟨t0, t3, t4, t5, t6, t7, t8, t9⟩, ⟨rfl, hl, hh, hk, hz, hsn, hse, hco⟩, ⟨rfl, q1, q2, q3, q4, q5⟩, hK9, C, hC, hC4⟩ := hT
  unfold wpL_c36 wpX6_clearedTotal wpX7_clearedTotal
  refine ⟨by unfold vp_in; decide, z_eqv ?_ (hK _)⟩
  rw [t6, show (6 : Int32).toNatClampNeg = 6 from rfl, hM 6 (by omega)]
theorem pc37 {tb : Nat} (htb : tb + 36000 < 2 ^ 29) {t_ploughed : Int32} {m_thrown : Int32} {m_s : Nat → Int32} {t_time : Int32} {t_store : Int32} {t_rate : Int32} {t_force : Int32} {t_cleared : Int32} {t_failed : Int32} {t_complained : Int32} {s_lower : Nat → Int32} {s_higher : Nat → Int32} {s_kind : Nat → Int32} {s_size : Nat → Int32} {s_snow : Nat → Int32} {s_saltEnd : Nat → Int32} {s_complained : Nat → Int32} {s_clearings : Nat → Int32} {s_count : Int32} {q_place : Nat → Int32} {q_target : Nat → Int32} {q_minutesLeft : Nat → Int32} {q_waiting : Nat → Int32} {q_orders : Nat → Int32} {q_count : Int32} (hTo : zTo tb t_time t_store t_rate t_force t_cleared t_ploughed t_failed t_complained s_lower s_higher s_kind s_size s_snow s_saltEnd s_complained s_clearings s_count q_place q_target q_minutesLeft q_waiting q_orders q_count m_s) {K : Int32 → Prop} (hK : ∀ (u1 : Int32), K u1) : wpL_c37 t_ploughed m_thrown m_s K := by
  obtain ⟨A, hAt, hT, hM⟩ := hTo
  obtain ⟨hI, ⟨t0, t3, t4, t5, t6, t7, t8, t9⟩, ⟨rfl, hl, hh, hk, hz, hsn, hse, hco⟩, ⟨rfl, q1, q2, q3, q4, q5⟩, hK9, C, hC, hC4⟩ := hT
  unfold wpL_c37 wpX6_ploughedTotal wpX7_ploughedTotal
  refine ⟨by unfold vp_in; decide, z_eqv ?_ (hK _)⟩
  rw [t7, show (7 : Int32).toNatClampNeg = 7 from rfl, hM 7 (by omega)]
theorem pc38 {tb : Nat} (htb : tb + 36000 < 2 ^ 29) {t_failed : Int32} {m_thrown : Int32} {m_s : Nat → Int32} {t_time : Int32} {t_store : Int32} {t_rate : Int32} {t_force : Int32} {t_cleared : Int32} {t_ploughed : Int32} {t_complained : Int32} {s_lower : Nat → Int32} {s_higher : Nat → Int32} {s_kind : Nat → Int32} {s_size : Nat → Int32} {s_snow : Nat → Int32} {s_saltEnd : Nat → Int32} {s_complained : Nat → Int32} {s_clearings : Nat → Int32} {s_count : Int32} {q_place : Nat → Int32} {q_target : Nat → Int32} {q_minutesLeft : Nat → Int32} {q_waiting : Nat → Int32} {q_orders : Nat → Int32} {q_count : Int32} (hTo : zTo tb t_time t_store t_rate t_force t_cleared t_ploughed t_failed t_complained s_lower s_higher s_kind s_size s_snow s_saltEnd s_complained s_clearings s_count q_place q_target q_minutesLeft q_waiting q_orders q_count m_s) {K : Int32 → Prop} (hK : ∀ (u1 : Int32), K u1) : wpL_c38 t_failed m_thrown m_s K := by
  obtain ⟨A, hAt, hT, hM⟩ := hTo
  obtain ⟨hI, ⟨t0, t3, t4, t5, t6, t7, t8, t9⟩, ⟨rfl, hl, hh, hk, hz, hsn, hse, hco⟩, ⟨rfl, q1, q2, q3, q4, q5⟩, hK9, C, hC, hC4⟩ := hT
  unfold wpL_c38 wpX6_failedOrders wpX7_failedOrders
  refine ⟨by unfold vp_in; decide, z_eqv ?_ (hK _)⟩
  rw [t8, show (8 : Int32).toNatClampNeg = 8 from rfl, hM 8 (by omega)]
theorem pc39 {tb : Nat} (htb : tb + 36000 < 2 ^ 29) {t_complained : Int32} {m_thrown : Int32} {m_s : Nat → Int32} {t_time : Int32} {t_store : Int32} {t_rate : Int32} {t_force : Int32} {t_cleared : Int32} {t_ploughed : Int32} {t_failed : Int32} {s_lower : Nat → Int32} {s_higher : Nat → Int32} {s_kind : Nat → Int32} {s_size : Nat → Int32} {s_snow : Nat → Int32} {s_saltEnd : Nat → Int32} {s_complained : Nat → Int32} {s_clearings : Nat → Int32} {s_count : Int32} {q_place : Nat → Int32} {q_target : Nat → Int32} {q_minutesLeft : Nat → Int32} {q_waiting : Nat → Int32} {q_orders : Nat → Int32} {q_count : Int32} (hTo : zTo tb t_time t_store t_rate t_force t_cleared t_ploughed t_failed t_complained s_lower s_higher s_kind s_size s_snow s_saltEnd s_complained s_clearings s_count q_place q_target q_minutesLeft q_waiting q_orders q_count m_s) {K : Int32 → Prop} (hK : ∀ (u1 : Int32), K u1) : wpL_c39 t_complained m_thrown m_s K := by
  obtain ⟨A, hAt, hT, hM⟩ := hTo
  obtain ⟨hI, ⟨t0, t3, t4, t5, t6, t7, t8, t9⟩, ⟨rfl, hl, hh, hk, hz, hsn, hse, hco⟩, ⟨rfl, q1, q2, q3, q4, q5⟩, hK9, C, hC, hC4⟩ := hT
  unfold wpL_c39 wpX6_complaintTotal wpX7_complaintTotal
  refine ⟨by unfold vp_in; decide, z_eqv ?_ (hK _)⟩
  rw [t9, show (9 : Int32).toNatClampNeg = 9 from rfl, hM 9 (by omega)]
