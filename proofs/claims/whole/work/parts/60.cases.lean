/-! what the calls leave -/
theorem z_okL {o : Nat → Int64} {y : Int64} {P : Prop} (h : P) : (((0 : Int32) = 0 → ((¬ (0 : Int32) = 0 → P) ∧ ((0 : Int32) = 0 → ((lg_cmp (vp_updL o (0 : Int32).toNatClampNeg y (0 : Int32).toNatClampNeg) y = 0 → P) ∧ (¬ lg_cmp (vp_updL o (0 : Int32).toNatClampNeg y (0 : Int32).toNatClampNeg) y = 0 → False))))) ∧ (¬ (0 : Int32) = 0 → False)) :=
  ⟨fun _ => ⟨fun _ => h, fun _ => ⟨fun _ => h, fun q => q z_cmp⟩⟩, fun q => q rfl⟩
theorem z_noL {k : Int32} (hk : ¬ k = 0) {P X : Prop} (h : P) : (k = k → ((¬ k = 0 → P) ∧ (k = 0 → X))) ∧ (¬ k = k → False) := ⟨fun _ => ⟨fun _ => h, fun q => absurd q hk⟩, fun q => q rfl⟩
theorem pc0 {tb : Nat} (htb : tb + 36000 < 2 ^ 29) {v1 : Int32} {v2 : Int32} {v3 : Int32} {v4 : Int32} {t_time : Int32} {t_store : Int32} {t_rate : Int32} {t_force : Int32} {t_cleared : Int32} {t_ploughed : Int32} {t_failed : Int32} {t_complained : Int32} {s_lower : Nat → Int32} {s_higher : Nat → Int32} {s_kind : Nat → Int32} {s_size : Nat → Int32} {s_snow : Nat → Int32} {s_saltEnd : Nat → Int32} {s_complained : Nat → Int32} {s_clearings : Nat → Int32} {s_count : Int32} {q_place : Nat → Int32} {q_target : Nat → Int32} {q_minutesLeft : Nat → Int32} {q_waiting : Nat → Int32} {q_orders : Nat → Int32} {q_count : Int32} {h_free : Int32} {h_count : Int32} {R : Nat → TT} {m_changes : Int32} {m_thrown : Int32} {m_s : Nat → Int32} {m_was : Nat → Int32} {m_past : Nat → Int32} {o : Nat → Int64} (hTo : zTo tb t_time t_store t_rate t_force t_cleared t_ploughed t_failed t_complained s_lower s_higher s_kind s_size s_snow s_saltEnd s_complained s_clearings s_count q_place q_target q_minutesLeft q_waiting q_orders q_count m_s) (hHi : zHi tb h_free h_count R m_changes m_past) {K : (Nat → Int32) → (Nat → Int32) → (Nat → Int32) → (Nat → Int32) → (Nat → Int32) → (Nat → Int32) → (Nat → Int32) → (Nat → Int32) → Int32 → Int32 → Int32 → (Nat → TT) → Int32 → Int32 → (Nat → Int32) → (Nat → Int32) → (Nat → Int32) → (Nat → Int64) → Prop} (hK : ∀ (u1 : Nat → Int32) (u2 : Nat → Int32) (u3 : Nat → Int32) (u4 : Nat → Int32) (u5 : Nat → Int32) (u6 : Nat → Int32) (u7 : Nat → Int32) (u8 : Nat → Int32) (u9 : Int32) (u10 : Int32) (u11 : Int32) (u12 : Nat → TT) (u13 : Int32) (u14 : Int32) (u15 : Nat → Int32) (u16 : Nat → Int32) (u17 : Nat → Int32) (u18 : Nat → Int64), zTo (tb + 36000) t_time t_store t_rate t_force t_cleared t_ploughed t_failed t_complained u1 u2 u3 u4 u5 u6 u7 u8 u9 q_place q_target q_minutesLeft q_waiting q_orders q_count u15 → zHi (tb + 36000) u10 u11 u12 u13 u17 → K u1 u2 u3 u4 u5 u6 u7 u8 u9 u10 u11 u12 u13 u14 u15 u16 u17 u18) : wpL_c0 v1 v2 v3 v4 t_time t_store t_rate t_force t_cleared t_ploughed t_failed t_complained s_lower s_higher s_kind s_size s_snow s_saltEnd s_complained s_clearings s_count q_place q_target q_minutesLeft q_waiting q_orders q_count h_free h_count R m_changes m_thrown m_s m_was m_past o K := by
  obtain ⟨A, hAt, hT, hM⟩ := hTo
  obtain ⟨f, c, h, hf, hc, rfl, rfl, rfl, hh⟩ := hHi
  unfold wpL_c0 wpL_addStreet wpX6_addStreet wpX7_addStreet wpX7_thrown
  refine k_write hT hf (fun R1 hR hRf => ?_)
  rcases o_street hT v1 v2 ((v3.toUInt32 % 65536).toInt32) v4 0 ((fun _ => 0), (fun _ => 0)) with ⟨cc, kk, hck, hcl, hmo⟩ | ⟨B, r, hr, hB0, hcl, hmo⟩
  · have hcl : ∀ P : Int32 → (Nat → Int32) → (Nat → Int32) → (Nat → Int32) → (Nat → Int32) → (Nat → Int32) → (Nat → Int32) → (Nat → Int32) → (Nat → Int32) → Int32 → Prop, P cc s_lower s_higher s_kind s_size s_snow s_saltEnd s_complained s_clearings s_count → wpX5_putStreet v1 v2 ((v3.toUInt32 % 65536).toInt32) v4 s_lower s_higher s_kind s_size s_snow s_saltEnd s_complained s_clearings s_count P := fun P hp => hcl (fun r u x => P r (u.2.2.2.2.2.2.2.2.1) (u.2.2.2.2.2.2.2.2.2.1) (u.2.2.2.2.2.2.2.2.2.2.1) (u.2.2.2.2.2.2.2.2.2.2.2.1) (u.2.2.2.2.2.2.2.2.2.2.2.2.1) (u.2.2.2.2.2.2.2.2.2.2.2.2.2.1) (u.2.2.2.2.2.2.2.2.2.2.2.2.2.2.1) (u.2.2.2.2.2.2.2.2.2.2.2.2.2.2.2.1) (u.2.2.2.2.2.2.2.2.2.2.2.2.2.2.2.2.1)) hp
    have hmo : ∀ P : Int32 → Int32 → (Nat → Int32) → Prop, P 0 kk m_s → wpX7_streets v1 v2 ((v3.toUInt32 % 65536).toInt32) v4 0 m_s P := fun P hp => hmo m_s (0, (fun _ => 0), (fun _ => 0)) hM (fun r k m _ => P r k m) hp
    refine hcl _ ?_
    simp only [List.mem_cons, List.not_mem_nil, or_false, Prod.mk.injEq] at hck
    rcases hck with ⟨rfl, rfl⟩ | ⟨rfl, rfl⟩ | ⟨rfl, rfl⟩
    · refine br_m rfl ?_
      refine (Or.inl ⟨rfl, m_keeps hM (fun was hwas => hmo _ (m_ends0 (by decide) (z_noL (by decide) ?_)))⟩)
      exact hK _ _ _ _ _ _ _ _ _ _ _ _ _ _ _ _ _ _ ⟨A, by omega, hT, hM⟩ (zHi_w hf hc (by omega) hh hR)
    · refine br_n (by decide) (br_m rfl ?_)
      refine (Or.inr (Or.inl ⟨rfl, m_keeps hM (fun was hwas => hmo _ (m_ends0 (by decide) (z_noL (by decide) ?_)))⟩))
      exact hK _ _ _ _ _ _ _ _ _ _ _ _ _ _ _ _ _ _ ⟨A, by omega, hT, hM⟩ (zHi_w hf hc (by omega) hh hR)
    · refine br_n (by decide) (br_n (by decide) (br_m rfl ?_))
      refine (Or.inr (Or.inr ⟨rfl, m_keeps hM (fun was hwas => hmo _ (m_ends0 (by decide) (z_noL (by decide) ?_)))⟩))
      exact hK _ _ _ _ _ _ _ _ _ _ _ _ _ _ _ _ _ _ ⟨A, by omega, hT, hM⟩ (zHi_w hf hc (by omega) hh hR)
  · have hcl : ∀ P : Int32 → (Nat → Int32) → (Nat → Int32) → (Nat → Int32) → (Nat → Int32) → (Nat → Int32) → (Nat → Int32) → (Nat → Int32) → (Nat → Int32) → Int32 → Prop, (∀ b1 b2 b3 b4 b5 b6 b7 b8 b9, zTc B t_time t_store t_rate t_force t_cleared t_ploughed t_failed t_complained b1 b2 b3 b4 b5 b6 b7 b8 b9 q_place q_target q_minutesLeft q_waiting q_orders q_count → P (nI r) b1 b2 b3 b4 b5 b6 b7 b8 b9) → wpX5_putStreet v1 v2 ((v3.toUInt32 % 65536).toInt32) v4 s_lower s_higher s_kind s_size s_snow s_saltEnd s_complained s_clearings s_count P := fun P hp => hcl (fun r u x => P r (u.2.2.2.2.2.2.2.2.1) (u.2.2.2.2.2.2.2.2.2.1) (u.2.2.2.2.2.2.2.2.2.2.1) (u.2.2.2.2.2.2.2.2.2.2.2.1) (u.2.2.2.2.2.2.2.2.2.2.2.2.1) (u.2.2.2.2.2.2.2.2.2.2.2.2.2.1) (u.2.2.2.2.2.2.2.2.2.2.2.2.2.2.1) (u.2.2.2.2.2.2.2.2.2.2.2.2.2.2.2.1) (u.2.2.2.2.2.2.2.2.2.2.2.2.2.2.2.2.1)) (by
      rintro ⟨a1, a2, a3, a4, a5, a6, a7, a8, a9, a10, a11, a12, a13, a14, a15, a16, a17, a18, a19, a20, a21, a22, a23⟩ x hu hF
      dsimp only at hF
      obtain ⟨rfl, rfl, rfl, rfl, rfl, rfl, rfl, rfl, rfl, rfl, rfl, rfl, rfl, rfl⟩ := hF
      exact hp _ _ _ _ _ _ _ _ _ hu)
    have hmo : ∀ P : Int32 → Int32 → (Nat → Int32) → Prop, (∀ m, zM B m → P (nI r) 0 m) → wpX7_streets v1 v2 ((v3.toUInt32 % 65536).toInt32) v4 0 m_s P := fun P hp => hmo m_s (0, (fun _ => 0), (fun _ => 0)) hM (fun r k m _ => P r k m) (fun m _ hm => hp m hm)
    refine hcl _ (fun b1 b2 b3 b4 b5 b6 b7 b8 b9 hB => ?_)
    refine br_n (z_neg hr (by decide)) (br_n (z_neg hr (by decide)) (br_n (z_neg hr (by decide)) (k_push hf hc ?_)))
    refine m_keeps hM (fun was hwas => hmo _ (fun m1 hm1 => m_ends hf hc (zHr_w hf hc (Nat.le_refl tb) hh hR) hAt hRf hwas (fun ch p hHi => z_okL ?_)))
    exact hK _ _ _ _ _ _ _ _ _ _ _ _ _ _ _ _ _ _ ⟨B, by omega, hB, hm1⟩ (zHi_mono (by omega) hHi)
theorem pc1 {tb : Nat} (htb : tb + 36000 < 2 ^ 29) {v1 : Int32} {t_time : Int32} {t_store : Int32} {t_rate : Int32} {t_force : Int32} {t_cleared : Int32} {t_ploughed : Int32} {t_failed : Int32} {t_complained : Int32} {s_lower : Nat → Int32} {s_higher : Nat → Int32} {s_kind : Nat → Int32} {s_size : Nat → Int32} {s_snow : Nat → Int32} {s_saltEnd : Nat → Int32} {s_complained : Nat → Int32} {s_clearings : Nat → Int32} {s_count : Int32} {q_place : Nat → Int32} {q_target : Nat → Int32} {q_minutesLeft : Nat → Int32} {q_waiting : Nat → Int32} {q_orders : Nat → Int32} {q_count : Int32} {h_free : Int32} {h_count : Int32} {R : Nat → TT} {m_changes : Int32} {m_thrown : Int32} {m_s : Nat → Int32} {m_was : Nat → Int32} {m_past : Nat → Int32} {o : Nat → Int64} (hTo : zTo tb t_time t_store t_rate t_force t_cleared t_ploughed t_failed t_complained s_lower s_higher s_kind s_size s_snow s_saltEnd s_complained s_clearings s_count q_place q_target q_minutesLeft q_waiting q_orders q_count m_s) (hHi : zHi tb h_free h_count R m_changes m_past) {K : (Nat → Int32) → (Nat → Int32) → (Nat → Int32) → (Nat → Int32) → Int32 → Int32 → Int32 → (Nat → TT) → Int32 → Int32 → (Nat → Int32) → (Nat → Int32) → (Nat → Int32) → (Nat → Int64) → Prop} (hK : ∀ (u1 : Nat → Int32) (u2 : Nat → Int32) (u3 : Nat → Int32) (u4 : Nat → Int32) (u5 : Int32) (u6 : Int32) (u7 : Int32) (u8 : Nat → TT) (u9 : Int32) (u10 : Int32) (u11 : Nat → Int32) (u12 : Nat → Int32) (u13 : Nat → Int32) (u14 : Nat → Int64), zTo (tb + 36000) t_time t_store t_rate t_force t_cleared t_ploughed t_failed t_complained s_lower s_higher s_kind s_size s_snow s_saltEnd s_complained s_clearings s_count u1 u2 u3 u4 q_orders u5 u11 → zHi (tb + 36000) u6 u7 u8 u9 u13 → K u1 u2 u3 u4 u5 u6 u7 u8 u9 u10 u11 u12 u13 u14) : wpL_c1 v1 t_time t_store t_rate t_force t_cleared t_ploughed t_failed t_complained s_lower s_higher s_kind s_size s_snow s_saltEnd s_complained s_clearings s_count q_place q_target q_minutesLeft q_waiting q_orders q_count h_free h_count R m_changes m_thrown m_s m_was m_past o K := by
  obtain ⟨A, hAt, hT, hM⟩ := hTo
  obtain ⟨f, c, h, hf, hc, rfl, rfl, rfl, hh⟩ := hHi
  unfold wpL_c1 wpL_addPlough wpX6_addPlough wpX7_addPlough wpX7_thrown
  refine k_write hT hf (fun R1 hR hRf => ?_)
  rcases o_plough hT v1 0 ((fun _ => 0), (fun _ => 0)) with ⟨cc, kk, hck, hcl, hmo⟩ | ⟨B, r, hr, hB0, hcl, hmo⟩
  · have hcl : ∀ P : Int32 → (Nat → Int32) → (Nat → Int32) → (Nat → Int32) → (Nat → Int32) → Int32 → Prop, P cc q_place q_target q_minutesLeft q_waiting q_count → wpX5_putPlough v1 q_place q_target q_minutesLeft q_waiting q_count P := fun P hp => hcl (fun r u x => P r (u.2.2.2.2.2.2.2.2.2.2.2.2.2.2.2.2.2.1) (u.2.2.2.2.2.2.2.2.2.2.2.2.2.2.2.2.2.2.1) (u.2.2.2.2.2.2.2.2.2.2.2.2.2.2.2.2.2.2.2.1) (u.2.2.2.2.2.2.2.2.2.2.2.2.2.2.2.2.2.2.2.2.1) (u.2.2.2.2.2.2.2.2.2.2.2.2.2.2.2.2.2.2.2.2.2.2)) hp
    have hmo : ∀ P : Int32 → Int32 → (Nat → Int32) → Prop, P 0 kk m_s → wpX7_ploughs v1 0 m_s P := fun P hp => hmo m_s (0, (fun _ => 0), (fun _ => 0)) hM (fun r k m _ => P r k m) hp
    refine hcl _ ?_
    simp only [List.mem_cons, List.not_mem_nil, or_false, Prod.mk.injEq] at hck
    rcases hck with ⟨rfl, rfl⟩ | ⟨rfl, rfl⟩
    · refine br_m rfl ?_
      refine (Or.inl ⟨rfl, m_keeps hM (fun was hwas => hmo _ (m_ends0 (by decide) (z_noL (by decide) ?_)))⟩)
      exact hK _ _ _ _ _ _ _ _ _ _ _ _ _ _ ⟨A, by omega, hT, hM⟩ (zHi_w hf hc (by omega) hh hR)
    · refine br_n (by decide) (br_m rfl ?_)
      refine (Or.inr ⟨rfl, m_keeps hM (fun was hwas => hmo _ (m_ends0 (by decide) (z_noL (by decide) ?_)))⟩)
      exact hK _ _ _ _ _ _ _ _ _ _ _ _ _ _ ⟨A, by omega, hT, hM⟩ (zHi_w hf hc (by omega) hh hR)
  · have hcl : ∀ P : Int32 → (Nat → Int32) → (Nat → Int32) → (Nat → Int32) → (Nat → Int32) → Int32 → Prop, (∀ b1 b2 b3 b4 b5, zTc B t_time t_store t_rate t_force t_cleared t_ploughed t_failed t_complained s_lower s_higher s_kind s_size s_snow s_saltEnd s_complained s_clearings s_count b1 b2 b3 b4 q_orders b5 → P (nI r) b1 b2 b3 b4 b5) → wpX5_putPlough v1 q_place q_target q_minutesLeft q_waiting q_count P := fun P hp => hcl (fun r u x => P r (u.2.2.2.2.2.2.2.2.2.2.2.2.2.2.2.2.2.1) (u.2.2.2.2.2.2.2.2.2.2.2.2.2.2.2.2.2.2.1) (u.2.2.2.2.2.2.2.2.2.2.2.2.2.2.2.2.2.2.2.1) (u.2.2.2.2.2.2.2.2.2.2.2.2.2.2.2.2.2.2.2.2.1) (u.2.2.2.2.2.2.2.2.2.2.2.2.2.2.2.2.2.2.2.2.2.2)) (by
      rintro ⟨a1, a2, a3, a4, a5, a6, a7, a8, a9, a10, a11, a12, a13, a14, a15, a16, a17, a18, a19, a20, a21, a22, a23⟩ x hu hF
      dsimp only at hF
      obtain ⟨rfl, rfl, rfl, rfl, rfl, rfl, rfl, rfl, rfl, rfl, rfl, rfl, rfl, rfl, rfl, rfl, rfl, rfl⟩ := hF
      exact hp _ _ _ _ _ hu)
    have hmo : ∀ P : Int32 → Int32 → (Nat → Int32) → Prop, (∀ m, zM B m → P (nI r) 0 m) → wpX7_ploughs v1 0 m_s P := fun P hp => hmo m_s (0, (fun _ => 0), (fun _ => 0)) hM (fun r k m _ => P r k m) (fun m _ hm => hp m hm)
    refine hcl _ (fun b1 b2 b3 b4 b5 hB => ?_)
    refine br_n (z_neg hr (by decide)) (br_n (z_neg hr (by decide)) (k_push hf hc ?_))
    refine m_keeps hM (fun was hwas => hmo _ (fun m1 hm1 => m_ends hf hc (zHr_w hf hc (Nat.le_refl tb) hh hR) hAt hRf hwas (fun ch p hHi => z_okL ?_)))
    exact hK _ _ _ _ _ _ _ _ _ _ _ _ _ _ ⟨B, by omega, hB, hm1⟩ (zHi_mono (by omega) hHi)
theorem pc2 {tb : Nat} (htb : tb + 36000 < 2 ^ 29) {v1 : Int32} {v2 : Int32} {t_time : Int32} {t_store : Int32} {t_rate : Int32} {t_force : Int32} {t_cleared : Int32} {t_ploughed : Int32} {t_failed : Int32} {t_complained : Int32} {s_lower : Nat → Int32} {s_higher : Nat → Int32} {s_kind : Nat → Int32} {s_size : Nat → Int32} {s_snow : Nat → Int32} {s_saltEnd : Nat → Int32} {s_complained : Nat → Int32} {s_clearings : Nat → Int32} {s_count : Int32} {q_place : Nat → Int32} {q_target : Nat → Int32} {q_minutesLeft : Nat → Int32} {q_waiting : Nat → Int32} {q_orders : Nat → Int32} {q_count : Int32} {h_free : Int32} {h_count : Int32} {R : Nat → TT} {m_changes : Int32} {m_thrown : Int32} {m_s : Nat → Int32} {m_was : Nat → Int32} {m_past : Nat → Int32} {o : Nat → Int64} (hTo : zTo tb t_time t_store t_rate t_force t_cleared t_ploughed t_failed t_complained s_lower s_higher s_kind s_size s_snow s_saltEnd s_complained s_clearings s_count q_place q_target q_minutesLeft q_waiting q_orders q_count m_s) (hHi : zHi tb h_free h_count R m_changes m_past) {K : (Nat → Int32) → (Nat → Int32) → Int32 → Int32 → (Nat → TT) → Int32 → Int32 → (Nat → Int32) → (Nat → Int32) → (Nat → Int32) → (Nat → Int64) → Prop} (hK : ∀ (u1 : Nat → Int32) (u2 : Nat → Int32) (u3 : Int32) (u4 : Int32) (u5 : Nat → TT) (u6 : Int32) (u7 : Int32) (u8 : Nat → Int32) (u9 : Nat → Int32) (u10 : Nat → Int32) (u11 : Nat → Int64), zTo (tb + 36000) t_time t_store t_rate t_force t_cleared t_ploughed t_failed t_complained s_lower s_higher s_kind s_size s_snow s_saltEnd s_complained s_clearings s_count q_place q_target q_minutesLeft u1 u2 q_count u8 → zHi (tb + 36000) u3 u4 u5 u6 u10 → K u1 u2 u3 u4 u5 u6 u7 u8 u9 u10 u11) : wpL_c2 v1 v2 t_time t_store t_rate t_force t_cleared t_ploughed t_failed t_complained s_lower s_higher s_kind s_size s_snow s_saltEnd s_complained s_clearings s_count q_place q_target q_minutesLeft q_waiting q_orders q_count h_free h_count R m_changes m_thrown m_s m_was m_past o K := by
  obtain ⟨A, hAt, hT, hM⟩ := hTo
  obtain ⟨f, c, h, hf, hc, rfl, rfl, rfl, hh⟩ := hHi
  unfold wpL_c2 wpL_order wpX6_order wpX7_order wpX7_thrown
  refine k_write hT hf (fun R1 hR hRf => ?_)
  rcases o_order hT v1 v2 0 ((fun _ => 0), (fun _ => 0)) with ⟨cc, kk, hck, hcl, hmo⟩ | ⟨B, r, hr, hB0, hcl, hmo⟩
  · have hcl : ∀ P : Int32 → (Nat → Int32) → (Nat → Int32) → Prop, P cc q_waiting q_orders → wpX5_appendOrder v1 v2 s_count q_waiting q_orders q_count P := fun P hp => hcl (fun r u x => P r (u.2.2.2.2.2.2.2.2.2.2.2.2.2.2.2.2.2.2.2.2.1) (u.2.2.2.2.2.2.2.2.2.2.2.2.2.2.2.2.2.2.2.2.2.1)) hp
    have hmo : ∀ P : Int32 → Int32 → (Nat → Int32) → Prop, P 0 kk m_s → wpX7_orders v1 v2 0 m_s P := fun P hp => hmo m_s (0, (fun _ => 0), (fun _ => 0)) hM (fun r k m _ => P r k m) hp
    refine hcl _ ?_
    simp only [List.mem_cons, List.not_mem_nil, or_false, Prod.mk.injEq] at hck
    rcases hck with ⟨rfl, rfl⟩ | ⟨rfl, rfl⟩
    · refine br_m rfl ?_
      refine (Or.inl ⟨rfl, m_keeps hM (fun was hwas => hmo _ (m_ends0 (by decide) (z_noL (by decide) ?_)))⟩)
      exact hK _ _ _ _ _ _ _ _ _ _ _ ⟨A, by omega, hT, hM⟩ (zHi_w hf hc (by omega) hh hR)
    · refine br_n (by decide) (br_m rfl ?_)
      refine (Or.inr ⟨rfl, m_keeps hM (fun was hwas => hmo _ (m_ends0 (by decide) (z_noL (by decide) ?_)))⟩)
      exact hK _ _ _ _ _ _ _ _ _ _ _ ⟨A, by omega, hT, hM⟩ (zHi_w hf hc (by omega) hh hR)
  · have hcl : ∀ P : Int32 → (Nat → Int32) → (Nat → Int32) → Prop, (∀ b1 b2, zTc B t_time t_store t_rate t_force t_cleared t_ploughed t_failed t_complained s_lower s_higher s_kind s_size s_snow s_saltEnd s_complained s_clearings s_count q_place q_target q_minutesLeft b1 b2 q_count → P (nI r) b1 b2) → wpX5_appendOrder v1 v2 s_count q_waiting q_orders q_count P := fun P hp => hcl (fun r u x => P r (u.2.2.2.2.2.2.2.2.2.2.2.2.2.2.2.2.2.2.2.2.1) (u.2.2.2.2.2.2.2.2.2.2.2.2.2.2.2.2.2.2.2.2.2.1)) (by
      rintro ⟨a1, a2, a3, a4, a5, a6, a7, a8, a9, a10, a11, a12, a13, a14, a15, a16, a17, a18, a19, a20, a21, a22, a23⟩ x hu hF
      dsimp only at hF
      obtain ⟨rfl, rfl, rfl, rfl, rfl, rfl, rfl, rfl, rfl, rfl, rfl, rfl, rfl, rfl, rfl, rfl, rfl, rfl, rfl, rfl, rfl⟩ := hF
      exact hp _ _ hu)
    have hmo : ∀ P : Int32 → Int32 → (Nat → Int32) → Prop, (∀ m, zM B m → P (nI r) 0 m) → wpX7_orders v1 v2 0 m_s P := fun P hp => hmo m_s (0, (fun _ => 0), (fun _ => 0)) hM (fun r k m _ => P r k m) (fun m _ hm => hp m hm)
    refine hcl _ (fun b1 b2 hB => ?_)
    refine br_n (z_neg hr (by decide)) (br_n (z_neg hr (by decide)) (k_push hf hc ?_))
    refine m_keeps hM (fun was hwas => hmo _ (fun m1 hm1 => m_ends hf hc (zHr_w hf hc (Nat.le_refl tb) hh hR) hAt hRf hwas (fun ch p hHi => z_okL ?_)))
    exact hK _ _ _ _ _ _ _ _ _ _ _ ⟨B, by omega, hB, hm1⟩ (zHi_mono (by omega) hHi)
theorem pc3 {tb : Nat} (htb : tb + 36000 < 2 ^ 29) {v1 : Int32} {t_time : Int32} {t_store : Int32} {t_rate : Int32} {t_force : Int32} {t_cleared : Int32} {t_ploughed : Int32} {t_failed : Int32} {t_complained : Int32} {s_lower : Nat → Int32} {s_higher : Nat → Int32} {s_kind : Nat → Int32} {s_size : Nat → Int32} {s_snow : Nat → Int32} {s_saltEnd : Nat → Int32} {s_complained : Nat → Int32} {s_clearings : Nat → Int32} {s_count : Int32} {q_place : Nat → Int32} {q_target : Nat → Int32} {q_minutesLeft : Nat → Int32} {q_waiting : Nat → Int32} {q_orders : Nat → Int32} {q_count : Int32} {h_free : Int32} {h_count : Int32} {R : Nat → TT} {m_changes : Int32} {m_thrown : Int32} {m_s : Nat → Int32} {m_was : Nat → Int32} {m_past : Nat → Int32} {o : Nat → Int64} (hTo : zTo tb t_time t_store t_rate t_force t_cleared t_ploughed t_failed t_complained s_lower s_higher s_kind s_size s_snow s_saltEnd s_complained s_clearings s_count q_place q_target q_minutesLeft q_waiting q_orders q_count m_s) (hHi : zHi tb h_free h_count R m_changes m_past) {K : (Nat → Int32) → Int32 → Int32 → (Nat → TT) → Int32 → Int32 → (Nat → Int32) → (Nat → Int32) → (Nat → Int32) → (Nat → Int64) → Prop} (hK : ∀ (u1 : Nat → Int32) (u2 : Int32) (u3 : Int32) (u4 : Nat → TT) (u5 : Int32) (u6 : Int32) (u7 : Nat → Int32) (u8 : Nat → Int32) (u9 : Nat → Int32) (u10 : Nat → Int64), zTo (tb + 36000) t_time t_store t_rate t_force t_cleared t_ploughed t_failed t_complained s_lower s_higher s_kind s_size s_snow s_saltEnd s_complained s_clearings s_count q_place q_target q_minutesLeft u1 q_orders q_count u7 → zHi (tb + 36000) u2 u3 u4 u5 u9 → K u1 u2 u3 u4 u5 u6 u7 u8 u9 u10) : wpL_c3 v1 t_time t_store t_rate t_force t_cleared t_ploughed t_failed t_complained s_lower s_higher s_kind s_size s_snow s_saltEnd s_complained s_clearings s_count q_place q_target q_minutesLeft q_waiting q_orders q_count h_free h_count R m_changes m_thrown m_s m_was m_past o K := by
  obtain ⟨A, hAt, hT, hM⟩ := hTo
  obtain ⟨f, c, h, hf, hc, rfl, rfl, rfl, hh⟩ := hHi
  unfold wpL_c3 wpL_cancelOrder wpX6_cancelOrder wpX7_cancelOrder wpX7_thrown
  refine k_write hT hf (fun R1 hR hRf => ?_)
  rcases o_cancel hT v1 0 ((fun _ => 0), (fun _ => 0)) with ⟨cc, kk, hck, hcl, hmo⟩ | ⟨B, r, hr, hB0, hcl, hmo⟩
  · have hcl : ∀ P : Int32 → (Nat → Int32) → Prop, P cc q_waiting → wpX5_removeOrder v1 q_waiting q_orders q_count P := fun P hp => hcl (fun r u x => P r (u.2.2.2.2.2.2.2.2.2.2.2.2.2.2.2.2.2.2.2.2.1)) hp
    have hmo : ∀ P : Int32 → Int32 → (Nat → Int32) → Prop, P 0 kk m_s → wpX7_cancels v1 0 m_s P := fun P hp => hmo m_s (0, (fun _ => 0), (fun _ => 0)) hM (fun r k m _ => P r k m) hp
    refine hcl _ ?_
    simp only [List.mem_cons, List.not_mem_nil, or_false, Prod.mk.injEq] at hck
    rcases hck with ⟨rfl, rfl⟩ | ⟨rfl, rfl⟩
    · refine br_m rfl ?_
      refine (Or.inl ⟨rfl, m_keeps hM (fun was hwas => hmo _ (m_ends0 (by decide) (z_noL (by decide) ?_)))⟩)
      exact hK _ _ _ _ _ _ _ _ _ _ ⟨A, by omega, hT, hM⟩ (zHi_w hf hc (by omega) hh hR)
    · refine br_n (by decide) (br_m rfl ?_)
      refine (Or.inr ⟨rfl, m_keeps hM (fun was hwas => hmo _ (m_ends0 (by decide) (z_noL (by decide) ?_)))⟩)
      exact hK _ _ _ _ _ _ _ _ _ _ ⟨A, by omega, hT, hM⟩ (zHi_w hf hc (by omega) hh hR)
  · have hcl : ∀ P : Int32 → (Nat → Int32) → Prop, (∀ b1, zTc B t_time t_store t_rate t_force t_cleared t_ploughed t_failed t_complained s_lower s_higher s_kind s_size s_snow s_saltEnd s_complained s_clearings s_count q_place q_target q_minutesLeft b1 q_orders q_count → P (nI r) b1) → wpX5_removeOrder v1 q_waiting q_orders q_count P := fun P hp => hcl (fun r u x => P r (u.2.2.2.2.2.2.2.2.2.2.2.2.2.2.2.2.2.2.2.2.1)) (by
      rintro ⟨a1, a2, a3, a4, a5, a6, a7, a8, a9, a10, a11, a12, a13, a14, a15, a16, a17, a18, a19, a20, a21, a22, a23⟩ x hu hF
      dsimp only at hF
      obtain ⟨rfl, rfl, rfl, rfl, rfl, rfl, rfl, rfl, rfl, rfl, rfl, rfl, rfl, rfl, rfl, rfl, rfl, rfl, rfl, rfl, rfl, rfl⟩ := hF
      exact hp _ hu)
    have hmo : ∀ P : Int32 → Int32 → (Nat → Int32) → Prop, (∀ m, zM B m → P (nI r) 0 m) → wpX7_cancels v1 0 m_s P := fun P hp => hmo m_s (0, (fun _ => 0), (fun _ => 0)) hM (fun r k m _ => P r k m) (fun m _ hm => hp m hm)
    refine hcl _ (fun b1 hB => ?_)
    refine br_n (z_neg hr (by decide)) (br_n (z_neg hr (by decide)) (k_push hf hc ?_))
    refine m_keeps hM (fun was hwas => hmo _ (fun m1 hm1 => m_ends hf hc (zHr_w hf hc (Nat.le_refl tb) hh hR) hAt hRf hwas (fun ch p hHi => z_okL ?_)))
    exact hK _ _ _ _ _ _ _ _ _ _ ⟨B, by omega, hB, hm1⟩ (zHi_mono (by omega) hHi)
theorem pc4 {tb : Nat} (htb : tb + 36000 < 2 ^ 29) {v1 : Int32} {t_time : Int32} {t_store : Int32} {t_rate : Int32} {t_force : Int32} {t_cleared : Int32} {t_ploughed : Int32} {t_failed : Int32} {t_complained : Int32} {s_lower : Nat → Int32} {s_higher : Nat → Int32} {s_kind : Nat → Int32} {s_size : Nat → Int32} {s_snow : Nat → Int32} {s_saltEnd : Nat → Int32} {s_complained : Nat → Int32} {s_clearings : Nat → Int32} {s_count : Int32} {q_place : Nat → Int32} {q_target : Nat → Int32} {q_minutesLeft : Nat → Int32} {q_waiting : Nat → Int32} {q_orders : Nat → Int32} {q_count : Int32} {h_free : Int32} {h_count : Int32} {R : Nat → TT} {m_changes : Int32} {m_thrown : Int32} {m_s : Nat → Int32} {m_was : Nat → Int32} {m_past : Nat → Int32} {o : Nat → Int64} (hTo : zTo tb t_time t_store t_rate t_force t_cleared t_ploughed t_failed t_complained s_lower s_higher s_kind s_size s_snow s_saltEnd s_complained s_clearings s_count q_place q_target q_minutesLeft q_waiting q_orders q_count m_s) (hHi : zHi tb h_free h_count R m_changes m_past) {K : Int32 → (Nat → Int32) → Int32 → Int32 → (Nat → TT) → Int32 → Int32 → (Nat → Int32) → (Nat → Int32) → (Nat → Int32) → (Nat → Int64) → Prop} (hK : ∀ (u1 : Int32) (u2 : Nat → Int32) (u3 : Int32) (u4 : Int32) (u5 : Nat → TT) (u6 : Int32) (u7 : Int32) (u8 : Nat → Int32) (u9 : Nat → Int32) (u10 : Nat → Int32) (u11 : Nat → Int64), zTo (tb + 36000) t_time u1 t_rate t_force t_cleared t_ploughed t_failed t_complained s_lower s_higher s_kind s_size s_snow u2 s_complained s_clearings s_count q_place q_target q_minutesLeft q_waiting q_orders q_count u8 → zHi (tb + 36000) u3 u4 u5 u6 u10 → K u1 u2 u3 u4 u5 u6 u7 u8 u9 u10 u11) : wpL_c4 v1 t_time t_store t_rate t_force t_cleared t_ploughed t_failed t_complained s_lower s_higher s_kind s_size s_snow s_saltEnd s_complained s_clearings s_count q_place q_target q_minutesLeft q_waiting q_orders q_count h_free h_count R m_changes m_thrown m_s m_was m_past o K := by
  obtain ⟨A, hAt, hT, hM⟩ := hTo
  obtain ⟨f, c, h, hf, hc, rfl, rfl, rfl, hh⟩ := hHi
  unfold wpL_c4 wpL_salt wpX6_salt wpX7_salt wpX7_thrown
  refine k_write hT hf (fun R1 hR hRf => ?_)
  rcases o_salt hT (by omega) v1 0 ((fun _ => 0), (fun _ => 0)) with ⟨cc, kk, hck, hcl, hmo⟩ | ⟨B, r, hr, hB0, hcl, hmo⟩
  · have hcl : ∀ P : Int32 → Int32 → (Nat → Int32) → Prop, P cc t_store s_saltEnd → wpX5_spreadSalt v1 t_time t_store s_size s_saltEnd s_count P := fun P hp => hcl (fun r u x => P r (u.2.1) (u.2.2.2.2.2.2.2.2.2.2.2.2.2.1)) hp
    have hmo : ∀ P : Int32 → Int32 → (Nat → Int32) → Prop, P 0 kk m_s → wpX7_salts v1 0 m_s P := fun P hp => hmo m_s (0, (fun _ => 0), (fun _ => 0)) hM (fun r k m _ => P r k m) hp
    refine hcl _ ?_
    simp only [List.mem_cons, List.not_mem_nil, or_false, Prod.mk.injEq] at hck
    rcases hck with ⟨rfl, rfl⟩ | ⟨rfl, rfl⟩ | ⟨rfl, rfl⟩
    · refine br_m rfl ?_
      refine (Or.inl ⟨rfl, m_keeps hM (fun was hwas => hmo _ (m_ends0 (by decide) (z_noL (by decide) ?_)))⟩)
      exact hK _ _ _ _ _ _ _ _ _ _ _ ⟨A, by omega, hT, hM⟩ (zHi_w hf hc (by omega) hh hR)
    · refine br_n (by decide) (br_m rfl ?_)
      refine (Or.inr (Or.inl ⟨rfl, m_keeps hM (fun was hwas => hmo _ (m_ends0 (by decide) (z_noL (by decide) ?_)))⟩))
      exact hK _ _ _ _ _ _ _ _ _ _ _ ⟨A, by omega, hT, hM⟩ (zHi_w hf hc (by omega) hh hR)
    · refine br_n (by decide) (br_n (by decide) (br_m rfl ?_))
      refine (Or.inr (Or.inr ⟨rfl, m_keeps hM (fun was hwas => hmo _ (m_ends0 (by decide) (z_noL (by decide) ?_)))⟩))
      exact hK _ _ _ _ _ _ _ _ _ _ _ ⟨A, by omega, hT, hM⟩ (zHi_w hf hc (by omega) hh hR)
  · have hcl : ∀ P : Int32 → Int32 → (Nat → Int32) → Prop, (∀ b1 b2, zTc B t_time b1 t_rate t_force t_cleared t_ploughed t_failed t_complained s_lower s_higher s_kind s_size s_snow b2 s_complained s_clearings s_count q_place q_target q_minutesLeft q_waiting q_orders q_count → P (nI r) b1 b2) → wpX5_spreadSalt v1 t_time t_store s_size s_saltEnd s_count P := fun P hp => hcl (fun r u x => P r (u.2.1) (u.2.2.2.2.2.2.2.2.2.2.2.2.2.1)) (by
      rintro ⟨a1, a2, a3, a4, a5, a6, a7, a8, a9, a10, a11, a12, a13, a14, a15, a16, a17, a18, a19, a20, a21, a22, a23⟩ x hu hF
      dsimp only at hF
      obtain ⟨rfl, rfl, rfl, rfl, rfl, rfl, rfl, rfl, rfl, rfl, rfl, rfl, rfl, rfl, rfl, rfl, rfl, rfl, rfl, rfl, rfl⟩ := hF
      exact hp _ _ hu)
    have hmo : ∀ P : Int32 → Int32 → (Nat → Int32) → Prop, (∀ m, zM B m → P (nI r) 0 m) → wpX7_salts v1 0 m_s P := fun P hp => hmo m_s (0, (fun _ => 0), (fun _ => 0)) hM (fun r k m _ => P r k m) (fun m _ hm => hp m hm)
    refine hcl _ (fun b1 b2 hB => ?_)
    refine br_n (z_neg hr (by decide)) (br_n (z_neg hr (by decide)) (br_n (z_neg hr (by decide)) (k_push hf hc ?_)))
    refine m_keeps hM (fun was hwas => hmo _ (fun m1 hm1 => m_ends hf hc (zHr_w hf hc (Nat.le_refl tb) hh hR) hAt hRf hwas (fun ch p hHi => z_okL ?_)))
    exact hK _ _ _ _ _ _ _ _ _ _ _ ⟨B, by omega, hB, hm1⟩ (zHi_mono (by omega) hHi)
theorem pc5 {tb : Nat} (htb : tb + 36000 < 2 ^ 29) {v1 : Int32} {t_time : Int32} {t_store : Int32} {t_rate : Int32} {t_force : Int32} {t_cleared : Int32} {t_ploughed : Int32} {t_failed : Int32} {t_complained : Int32} {s_lower : Nat → Int32} {s_higher : Nat → Int32} {s_kind : Nat → Int32} {s_size : Nat → Int32} {s_snow : Nat → Int32} {s_saltEnd : Nat → Int32} {s_complained : Nat → Int32} {s_clearings : Nat → Int32} {s_count : Int32} {q_place : Nat → Int32} {q_target : Nat → Int32} {q_minutesLeft : Nat → Int32} {q_waiting : Nat → Int32} {q_orders : Nat → Int32} {q_count : Int32} {h_free : Int32} {h_count : Int32} {R : Nat → TT} {m_changes : Int32} {m_thrown : Int32} {m_s : Nat → Int32} {m_was : Nat → Int32} {m_past : Nat → Int32} {o : Nat → Int64} (hTo : zTo tb t_time t_store t_rate t_force t_cleared t_ploughed t_failed t_complained s_lower s_higher s_kind s_size s_snow s_saltEnd s_complained s_clearings s_count q_place q_target q_minutesLeft q_waiting q_orders q_count m_s) (hHi : zHi tb h_free h_count R m_changes m_past) {K : Int32 → Int32 → Int32 → (Nat → TT) → Int32 → Int32 → (Nat → Int32) → (Nat → Int32) → (Nat → Int32) → (Nat → Int64) → Prop} (hK : ∀ (u1 : Int32) (u2 : Int32) (u3 : Int32) (u4 : Nat → TT) (u5 : Int32) (u6 : Int32) (u7 : Nat → Int32) (u8 : Nat → Int32) (u9 : Nat → Int32) (u10 : Nat → Int64), zTo (tb + 36000) t_time u1 t_rate t_force t_cleared t_ploughed t_failed t_complained s_lower s_higher s_kind s_size s_snow s_saltEnd s_complained s_clearings s_count q_place q_target q_minutesLeft q_waiting q_orders q_count u7 → zHi (tb + 36000) u2 u3 u4 u5 u9 → K u1 u2 u3 u4 u5 u6 u7 u8 u9 u10) : wpL_c5 v1 t_time t_store t_rate t_force t_cleared t_ploughed t_failed t_complained s_lower s_higher s_kind s_size s_snow s_saltEnd s_complained s_clearings s_count q_place q_target q_minutesLeft q_waiting q_orders q_count h_free h_count R m_changes m_thrown m_s m_was m_past o K := by
  obtain ⟨A, hAt, hT, hM⟩ := hTo
  obtain ⟨f, c, h, hf, hc, rfl, rfl, rfl, hh⟩ := hHi
  unfold wpL_c5 wpL_loadSalt wpX6_loadSalt wpX7_loadSalt wpX7_thrown
  refine k_write hT hf (fun R1 hR hRf => ?_)
  rcases o_load hT v1 0 ((fun _ => 0), (fun _ => 0)) with ⟨cc, kk, hck, hcl, hmo⟩ | ⟨B, r, hr, hB0, hcl, hmo⟩
  · have hcl : ∀ P : Int32 → Int32 → Prop, P cc t_store → wpX5_fillStore v1 t_store P := fun P hp => hcl (fun r u x => P r (u.2.1)) hp
    have hmo : ∀ P : Int32 → Int32 → (Nat → Int32) → Prop, P 0 kk m_s → wpX7_loads v1 0 m_s P := fun P hp => hmo m_s (0, (fun _ => 0), (fun _ => 0)) hM (fun r k m _ => P r k m) hp
    refine hcl _ ?_
    simp only [List.mem_cons, List.not_mem_nil, or_false, Prod.mk.injEq] at hck
    rcases hck with ⟨rfl, rfl⟩ | ⟨rfl, rfl⟩
    · refine br_m rfl ?_
      refine (Or.inl ⟨rfl, m_keeps hM (fun was hwas => hmo _ (m_ends0 (by decide) (z_noL (by decide) ?_)))⟩)
      exact hK _ _ _ _ _ _ _ _ _ _ ⟨A, by omega, hT, hM⟩ (zHi_w hf hc (by omega) hh hR)
    · refine br_n (by decide) (br_m rfl ?_)
      refine (Or.inr ⟨rfl, m_keeps hM (fun was hwas => hmo _ (m_ends0 (by decide) (z_noL (by decide) ?_)))⟩)
      exact hK _ _ _ _ _ _ _ _ _ _ ⟨A, by omega, hT, hM⟩ (zHi_w hf hc (by omega) hh hR)
  · have hcl : ∀ P : Int32 → Int32 → Prop, (∀ b1, zTc B t_time b1 t_rate t_force t_cleared t_ploughed t_failed t_complained s_lower s_higher s_kind s_size s_snow s_saltEnd s_complained s_clearings s_count q_place q_target q_minutesLeft q_waiting q_orders q_count → P (nI r) b1) → wpX5_fillStore v1 t_store P := fun P hp => hcl (fun r u x => P r (u.2.1)) (by
      rintro ⟨a1, a2, a3, a4, a5, a6, a7, a8, a9, a10, a11, a12, a13, a14, a15, a16, a17, a18, a19, a20, a21, a22, a23⟩ x hu hF
      dsimp only at hF
      obtain ⟨rfl, rfl, rfl, rfl, rfl, rfl, rfl, rfl, rfl, rfl, rfl, rfl, rfl, rfl, rfl, rfl, rfl, rfl, rfl, rfl, rfl, rfl⟩ := hF
      exact hp _ hu)
    have hmo : ∀ P : Int32 → Int32 → (Nat → Int32) → Prop, (∀ m, zM B m → P (nI r) 0 m) → wpX7_loads v1 0 m_s P := fun P hp => hmo m_s (0, (fun _ => 0), (fun _ => 0)) hM (fun r k m _ => P r k m) (fun m _ hm => hp m hm)
    refine hcl _ (fun b1 hB => ?_)
    refine br_n (z_neg hr (by decide)) (br_n (z_neg hr (by decide)) (k_push hf hc ?_))
    refine m_keeps hM (fun was hwas => hmo _ (fun m1 hm1 => m_ends hf hc (zHr_w hf hc (Nat.le_refl tb) hh hR) hAt hRf hwas (fun ch p hHi => z_okL ?_)))
    exact hK _ _ _ _ _ _ _ _ _ _ ⟨B, by omega, hB, hm1⟩ (zHi_mono (by omega) hHi)
theorem pc6 {tb : Nat} (htb : tb + 36000 < 2 ^ 29) {v1 : Int32} {t_time : Int32} {t_store : Int32} {t_rate : Int32} {t_force : Int32} {t_cleared : Int32} {t_ploughed : Int32} {t_failed : Int32} {t_complained : Int32} {s_lower : Nat → Int32} {s_higher : Nat → Int32} {s_kind : Nat → Int32} {s_size : Nat → Int32} {s_snow : Nat → Int32} {s_saltEnd : Nat → Int32} {s_complained : Nat → Int32} {s_clearings : Nat → Int32} {s_count : Int32} {q_place : Nat → Int32} {q_target : Nat → Int32} {q_minutesLeft : Nat → Int32} {q_waiting : Nat → Int32} {q_orders : Nat → Int32} {q_count : Int32} {h_free : Int32} {h_count : Int32} {R : Nat → TT} {m_changes : Int32} {m_thrown : Int32} {m_s : Nat → Int32} {m_was : Nat → Int32} {m_past : Nat → Int32} {o : Nat → Int64} (hTo : zTo tb t_time t_store t_rate t_force t_cleared t_ploughed t_failed t_complained s_lower s_higher s_kind s_size s_snow s_saltEnd s_complained s_clearings s_count q_place q_target q_minutesLeft q_waiting q_orders q_count m_s) (hHi : zHi tb h_free h_count R m_changes m_past) {K : Int32 → Int32 → Int32 → (Nat → TT) → Int32 → Int32 → (Nat → Int32) → (Nat → Int32) → (Nat → Int32) → (Nat → Int64) → Prop} (hK : ∀ (u1 : Int32) (u2 : Int32) (u3 : Int32) (u4 : Nat → TT) (u5 : Int32) (u6 : Int32) (u7 : Nat → Int32) (u8 : Nat → Int32) (u9 : Nat → Int32) (u10 : Nat → Int64), zTo (tb + 36000) t_time t_store u1 t_force t_cleared t_ploughed t_failed t_complained s_lower s_higher s_kind s_size s_snow s_saltEnd s_complained s_clearings s_count q_place q_target q_minutesLeft q_waiting q_orders q_count u7 → zHi (tb + 36000) u2 u3 u4 u5 u9 → K u1 u2 u3 u4 u5 u6 u7 u8 u9 u10) : wpL_c6 v1 t_time t_store t_rate t_force t_cleared t_ploughed t_failed t_complained s_lower s_higher s_kind s_size s_snow s_saltEnd s_complained s_clearings s_count q_place q_target q_minutesLeft q_waiting q_orders q_count h_free h_count R m_changes m_thrown m_s m_was m_past o K := by
  obtain ⟨A, hAt, hT, hM⟩ := hTo
  obtain ⟨f, c, h, hf, hc, rfl, rfl, rfl, hh⟩ := hHi
  unfold wpL_c6 wpL_setSnowfall wpX6_setSnowfall wpX7_setSnowfall wpX7_thrown
  refine k_write hT hf (fun R1 hR hRf => ?_)
  rcases o_rate hT v1 0 ((fun _ => 0), (fun _ => 0)) with ⟨cc, kk, hck, hcl, hmo⟩ | ⟨B, r, hr, hB0, hcl, hmo⟩
  · have hcl : ∀ P : Int32 → Int32 → Prop, P cc t_rate → wpX5_changeRate v1 t_rate P := fun P hp => hcl (fun r u x => P r (u.2.2.1)) hp
    have hmo : ∀ P : Int32 → Int32 → (Nat → Int32) → Prop, P 0 kk m_s → wpX7_tells 4 v1 0 m_s P := fun P hp => hmo m_s (0, (fun _ => 0), (fun _ => 0)) hM (fun r k m _ => P r k m) hp
    refine hcl _ ?_
    simp only [List.mem_cons, List.not_mem_nil, or_false, Prod.mk.injEq] at hck
    rcases hck with ⟨rfl, rfl⟩
    · refine br_m rfl ?_
      refine ⟨rfl, m_keeps hM (fun was hwas => hmo _ (m_ends0 (by decide) (z_noL (by decide) ?_)))⟩
      exact hK _ _ _ _ _ _ _ _ _ _ ⟨A, by omega, hT, hM⟩ (zHi_w hf hc (by omega) hh hR)
  · have hcl : ∀ P : Int32 → Int32 → Prop, (∀ b1, zTc B t_time t_store b1 t_force t_cleared t_ploughed t_failed t_complained s_lower s_higher s_kind s_size s_snow s_saltEnd s_complained s_clearings s_count q_place q_target q_minutesLeft q_waiting q_orders q_count → P (nI r) b1) → wpX5_changeRate v1 t_rate P := fun P hp => hcl (fun r u x => P r (u.2.2.1)) (by
      rintro ⟨a1, a2, a3, a4, a5, a6, a7, a8, a9, a10, a11, a12, a13, a14, a15, a16, a17, a18, a19, a20, a21, a22, a23⟩ x hu hF
      dsimp only at hF
      obtain ⟨rfl, rfl, rfl, rfl, rfl, rfl, rfl, rfl, rfl, rfl, rfl, rfl, rfl, rfl, rfl, rfl, rfl, rfl, rfl, rfl, rfl, rfl⟩ := hF
      exact hp _ hu)
    have hmo : ∀ P : Int32 → Int32 → (Nat → Int32) → Prop, (∀ m, zM B m → P (nI r) 0 m) → wpX7_tells 4 v1 0 m_s P := fun P hp => hmo m_s (0, (fun _ => 0), (fun _ => 0)) hM (fun r k m _ => P r k m) (fun m _ hm => hp m hm)
    refine hcl _ (fun b1 hB => ?_)
    refine br_n (z_neg hr (by decide)) (k_push hf hc ?_)
    refine m_keeps hM (fun was hwas => hmo _ (fun m1 hm1 => m_ends hf hc (zHr_w hf hc (Nat.le_refl tb) hh hR) hAt hRf hwas (fun ch p hHi => z_okL ?_)))
    exact hK _ _ _ _ _ _ _ _ _ _ ⟨B, by omega, hB, hm1⟩ (zHi_mono (by omega) hHi)
theorem pc7 {tb : Nat} (htb : tb + 36000 < 2 ^ 29) {v1 : Int32} {t_time : Int32} {t_store : Int32} {t_rate : Int32} {t_force : Int32} {t_cleared : Int32} {t_ploughed : Int32} {t_failed : Int32} {t_complained : Int32} {s_lower : Nat → Int32} {s_higher : Nat → Int32} {s_kind : Nat → Int32} {s_size : Nat → Int32} {s_snow : Nat → Int32} {s_saltEnd : Nat → Int32} {s_complained : Nat → Int32} {s_clearings : Nat → Int32} {s_count : Int32} {q_place : Nat → Int32} {q_target : Nat → Int32} {q_minutesLeft : Nat → Int32} {q_waiting : Nat → Int32} {q_orders : Nat → Int32} {q_count : Int32} {h_free : Int32} {h_count : Int32} {R : Nat → TT} {m_changes : Int32} {m_thrown : Int32} {m_s : Nat → Int32} {m_was : Nat → Int32} {m_past : Nat → Int32} {o : Nat → Int64} (hTo : zTo tb t_time t_store t_rate t_force t_cleared t_ploughed t_failed t_complained s_lower s_higher s_kind s_size s_snow s_saltEnd s_complained s_clearings s_count q_place q_target q_minutesLeft q_waiting q_orders q_count m_s) (hHi : zHi tb h_free h_count R m_changes m_past) {K : Int32 → Int32 → Int32 → (Nat → TT) → Int32 → Int32 → (Nat → Int32) → (Nat → Int32) → (Nat → Int32) → (Nat → Int64) → Prop} (hK : ∀ (u1 : Int32) (u2 : Int32) (u3 : Int32) (u4 : Nat → TT) (u5 : Int32) (u6 : Int32) (u7 : Nat → Int32) (u8 : Nat → Int32) (u9 : Nat → Int32) (u10 : Nat → Int64), zTo (tb + 36000) t_time t_store t_rate u1 t_cleared t_ploughed t_failed t_complained s_lower s_higher s_kind s_size s_snow s_saltEnd s_complained s_clearings s_count q_place q_target q_minutesLeft q_waiting q_orders q_count u7 → zHi (tb + 36000) u2 u3 u4 u5 u9 → K u1 u2 u3 u4 u5 u6 u7 u8 u9 u10) : wpL_c7 v1 t_time t_store t_rate t_force t_cleared t_ploughed t_failed t_complained s_lower s_higher s_kind s_size s_snow s_saltEnd s_complained s_clearings s_count q_place q_target q_minutesLeft q_waiting q_orders q_count h_free h_count R m_changes m_thrown m_s m_was m_past o K := by
  obtain ⟨A, hAt, hT, hM⟩ := hTo
  obtain ⟨f, c, h, hf, hc, rfl, rfl, rfl, hh⟩ := hHi
  unfold wpL_c7 wpL_setWind wpX6_setWind wpX7_setWind wpX7_thrown
  refine k_write hT hf (fun R1 hR hRf => ?_)
  rcases o_wind hT v1 0 ((fun _ => 0), (fun _ => 0)) with ⟨cc, kk, hck, hcl, hmo⟩ | ⟨B, r, hr, hB0, hcl, hmo⟩
  · have hcl : ∀ P : Int32 → Int32 → Prop, P cc t_force → wpX5_changeForce v1 t_force P := fun P hp => hcl (fun r u x => P r (u.2.2.2.1)) hp
    have hmo : ∀ P : Int32 → Int32 → (Nat → Int32) → Prop, P 0 kk m_s → wpX7_tells 5 v1 0 m_s P := fun P hp => hmo m_s (0, (fun _ => 0), (fun _ => 0)) hM (fun r k m _ => P r k m) hp
    refine hcl _ ?_
    simp only [List.mem_cons, List.not_mem_nil, or_false, Prod.mk.injEq] at hck
    rcases hck with ⟨rfl, rfl⟩
    · refine br_m rfl ?_
      refine ⟨rfl, m_keeps hM (fun was hwas => hmo _ (m_ends0 (by decide) (z_noL (by decide) ?_)))⟩
      exact hK _ _ _ _ _ _ _ _ _ _ ⟨A, by omega, hT, hM⟩ (zHi_w hf hc (by omega) hh hR)
  · have hcl : ∀ P : Int32 → Int32 → Prop, (∀ b1, zTc B t_time t_store t_rate b1 t_cleared t_ploughed t_failed t_complained s_lower s_higher s_kind s_size s_snow s_saltEnd s_complained s_clearings s_count q_place q_target q_minutesLeft q_waiting q_orders q_count → P (nI r) b1) → wpX5_changeForce v1 t_force P := fun P hp => hcl (fun r u x => P r (u.2.2.2.1)) (by
      rintro ⟨a1, a2, a3, a4, a5, a6, a7, a8, a9, a10, a11, a12, a13, a14, a15, a16, a17, a18, a19, a20, a21, a22, a23⟩ x hu hF
      dsimp only at hF
      obtain ⟨rfl, rfl, rfl, rfl, rfl, rfl, rfl, rfl, rfl, rfl, rfl, rfl, rfl, rfl, rfl, rfl, rfl, rfl, rfl, rfl, rfl, rfl⟩ := hF
      exact hp _ hu)
    have hmo : ∀ P : Int32 → Int32 → (Nat → Int32) → Prop, (∀ m, zM B m → P (nI r) 0 m) → wpX7_tells 5 v1 0 m_s P := fun P hp => hmo m_s (0, (fun _ => 0), (fun _ => 0)) hM (fun r k m _ => P r k m) (fun m _ hm => hp m hm)
    refine hcl _ (fun b1 hB => ?_)
    refine br_n (z_neg hr (by decide)) (k_push hf hc ?_)
    refine m_keeps hM (fun was hwas => hmo _ (fun m1 hm1 => m_ends hf hc (zHr_w hf hc (Nat.le_refl tb) hh hR) hAt hRf hwas (fun ch p hHi => z_okL ?_)))
    exact hK _ _ _ _ _ _ _ _ _ _ ⟨B, by omega, hB, hm1⟩ (zHi_mono (by omega) hHi)
theorem pc8 {tb : Nat} (htb : tb + 36000 < 2 ^ 29) {v1 : Int32} {w_reach : Nat → Int32} {w_settled : Nat → Int32} {t_time : Int32} {t_store : Int32} {t_rate : Int32} {t_force : Int32} {t_cleared : Int32} {t_ploughed : Int32} {t_failed : Int32} {t_complained : Int32} {s_lower : Nat → Int32} {s_higher : Nat → Int32} {s_kind : Nat → Int32} {s_size : Nat → Int32} {s_snow : Nat → Int32} {s_saltEnd : Nat → Int32} {s_complained : Nat → Int32} {s_clearings : Nat → Int32} {s_count : Int32} {q_place : Nat → Int32} {q_target : Nat → Int32} {q_minutesLeft : Nat → Int32} {q_waiting : Nat → Int32} {q_orders : Nat → Int32} {q_count : Int32} {h_free : Int32} {h_count : Int32} {R : Nat → TT} {m_changes : Int32} {m_thrown : Int32} {m_answer : Int32} {m_s : Nat → Int32} {m_was : Nat → Int32} {m_past : Nat → Int32} {m_far : Nat → Int32} {m_drift : Nat → Int32} {o : Nat → Int64} (hTo : zTo tb t_time t_store t_rate t_force t_cleared t_ploughed t_failed t_complained s_lower s_higher s_kind s_size s_snow s_saltEnd s_complained s_clearings s_count q_place q_target q_minutesLeft q_waiting q_orders q_count m_s) (hHi : zHi tb h_free h_count R m_changes m_past) {K : (Nat → Int32) → (Nat → Int32) → Int32 → Int32 → Int32 → Int32 → Int32 → (Nat → Int32) → (Nat → Int32) → (Nat → Int32) → (Nat → Int32) → (Nat → Int32) → (Nat → Int32) → (Nat → Int32) → (Nat → Int32) → Int32 → Int32 → (Nat → TT) → Int32 → Int32 → Int32 → (Nat → Int32) → (Nat → Int32) → (Nat → Int32) → (Nat → Int32) → (Nat → Int32) → (Nat → Int64) → Prop} (hK : ∀ (u1 : Nat → Int32) (u2 : Nat → Int32) (u3 : Int32) (u4 : Int32) (u5 : Int32) (u6 : Int32) (u7 : Int32) (u8 : Nat → Int32) (u9 : Nat → Int32) (u10 : Nat → Int32) (u11 : Nat → Int32) (u12 : Nat → Int32) (u13 : Nat → Int32) (u14 : Nat → Int32) (u15 : Nat → Int32) (u16 : Int32) (u17 : Int32) (u18 : Nat → TT) (u19 : Int32) (u20 : Int32) (u21 : Int32) (u22 : Nat → Int32) (u23 : Nat → Int32) (u24 : Nat → Int32) (u25 : Nat → Int32) (u26 : Nat → Int32) (u27 : Nat → Int64), zTo (tb + 36000) u3 t_store t_rate t_force u4 u5 u6 u7 s_lower s_higher s_kind s_size u8 s_saltEnd u9 u10 s_count u11 u12 u13 u14 u15 q_count u22 → zHi (tb + 36000) u16 u17 u18 u19 u24 → K u1 u2 u3 u4 u5 u6 u7 u8 u9 u10 u11 u12 u13 u14 u15 u16 u17 u18 u19 u20 u21 u22 u23 u24 u25 u26 u27) : wpL_c8 v1 w_reach w_settled t_time t_store t_rate t_force t_cleared t_ploughed t_failed t_complained s_lower s_higher s_kind s_size s_snow s_saltEnd s_complained s_clearings s_count q_place q_target q_minutesLeft q_waiting q_orders q_count h_free h_count R m_changes m_thrown m_answer m_s m_was m_past m_far m_drift o K := by
  obtain ⟨A, hAt, hT, hM⟩ := hTo
  obtain ⟨f, c, h, hf, hc, rfl, rfl, rfl, hh⟩ := hHi
  unfold wpL_c8 wpL_advance wpX6_advance wpX7_advance wpX7_thrown
  refine k_write hT hf (fun R1 hR hRf => ?_)
  rcases o_wait hT (by omega) v1 0 (w_reach, w_settled) with ⟨cc, kk, hck, hcl, hmo⟩ | ⟨B, r, hr, hB0, hcl, hmo⟩
  · have hcl : ∀ P : Int32 → Int32 → Int32 → Int32 → Int32 → Int32 → (Nat → Int32) → (Nat → Int32) → (Nat → Int32) → (Nat → Int32) → (Nat → Int32) → (Nat → Int32) → (Nat → Int32) → (Nat → Int32) → (Nat → Int32) → (Nat → Int32) → Prop, P cc t_time t_cleared t_ploughed t_failed t_complained w_reach w_settled s_snow s_complained s_clearings q_place q_target q_minutesLeft q_waiting q_orders → wpX5_passMinutes v1 t_time t_rate t_force t_cleared t_ploughed t_failed t_complained w_reach w_settled s_lower s_higher s_kind s_size s_snow s_saltEnd s_complained s_clearings s_count q_place q_target q_minutesLeft q_waiting q_orders q_count P := fun P hp => hcl (fun r u x => P r (u.1) (u.2.2.2.2.1) (u.2.2.2.2.2.1) (u.2.2.2.2.2.2.1) (u.2.2.2.2.2.2.2.1) x.1 x.2 (u.2.2.2.2.2.2.2.2.2.2.2.2.1) (u.2.2.2.2.2.2.2.2.2.2.2.2.2.2.1) (u.2.2.2.2.2.2.2.2.2.2.2.2.2.2.2.1) (u.2.2.2.2.2.2.2.2.2.2.2.2.2.2.2.2.2.1) (u.2.2.2.2.2.2.2.2.2.2.2.2.2.2.2.2.2.2.1) (u.2.2.2.2.2.2.2.2.2.2.2.2.2.2.2.2.2.2.2.1) (u.2.2.2.2.2.2.2.2.2.2.2.2.2.2.2.2.2.2.2.2.1) (u.2.2.2.2.2.2.2.2.2.2.2.2.2.2.2.2.2.2.2.2.2.1)) hp
    have hmo : ∀ P : Int32 → Int32 → Int32 → (Nat → Int32) → (Nat → Int32) → (Nat → Int32) → Prop, P 0 kk m_answer m_s m_far m_drift → wpX7_waits v1 0 m_answer m_s m_far m_drift P := fun P hp => hmo m_s (m_answer, m_far, m_drift) hM (fun r k m y => P r k y.1 m y.2.1 y.2.2) hp
    refine hcl _ ?_
    simp only [List.mem_cons, List.not_mem_nil, or_false, Prod.mk.injEq] at hck
    rcases hck with ⟨rfl, rfl⟩
    · refine br_m rfl ?_
      refine ⟨rfl, m_keeps hM (fun was hwas => hmo _ (m_ends0 (by decide) (z_noL (by decide) ?_)))⟩
      exact hK _ _ _ _ _ _ _ _ _ _ _ _ _ _ _ _ _ _ _ _ _ _ _ _ _ _ _ ⟨A, by omega, hT, hM⟩ (zHi_w hf hc (by omega) hh hR)
  · have hcl : ∀ P : Int32 → Int32 → Int32 → Int32 → Int32 → Int32 → (Nat → Int32) → (Nat → Int32) → (Nat → Int32) → (Nat → Int32) → (Nat → Int32) → (Nat → Int32) → (Nat → Int32) → (Nat → Int32) → (Nat → Int32) → (Nat → Int32) → Prop, (∀ b1 b2 b3 b4 b5 b6 b7 b8 b9 b10 b11 b12 b13 b14 b15, zTc B b1 t_store t_rate t_force b2 b3 b4 b5 s_lower s_higher s_kind s_size b8 s_saltEnd b9 b10 s_count b11 b12 b13 b14 b15 q_count → P (nI r) b1 b2 b3 b4 b5 b6 b7 b8 b9 b10 b11 b12 b13 b14 b15) → wpX5_passMinutes v1 t_time t_rate t_force t_cleared t_ploughed t_failed t_complained w_reach w_settled s_lower s_higher s_kind s_size s_snow s_saltEnd s_complained s_clearings s_count q_place q_target q_minutesLeft q_waiting q_orders q_count P := fun P hp => hcl (fun r u x => P r (u.1) (u.2.2.2.2.1) (u.2.2.2.2.2.1) (u.2.2.2.2.2.2.1) (u.2.2.2.2.2.2.2.1) x.1 x.2 (u.2.2.2.2.2.2.2.2.2.2.2.2.1) (u.2.2.2.2.2.2.2.2.2.2.2.2.2.2.1) (u.2.2.2.2.2.2.2.2.2.2.2.2.2.2.2.1) (u.2.2.2.2.2.2.2.2.2.2.2.2.2.2.2.2.2.1) (u.2.2.2.2.2.2.2.2.2.2.2.2.2.2.2.2.2.2.1) (u.2.2.2.2.2.2.2.2.2.2.2.2.2.2.2.2.2.2.2.1) (u.2.2.2.2.2.2.2.2.2.2.2.2.2.2.2.2.2.2.2.2.1) (u.2.2.2.2.2.2.2.2.2.2.2.2.2.2.2.2.2.2.2.2.2.1)) (by
      rintro ⟨a1, a2, a3, a4, a5, a6, a7, a8, a9, a10, a11, a12, a13, a14, a15, a16, a17, a18, a19, a20, a21, a22, a23⟩ x hu hF
      dsimp only at hF
      obtain ⟨rfl, rfl, rfl, rfl, rfl, rfl, rfl, rfl, rfl, rfl⟩ := hF
      exact hp _ _ _ _ _ _ _ _ _ _ _ _ _ _ _ hu)
    have hmo : ∀ P : Int32 → Int32 → Int32 → (Nat → Int32) → (Nat → Int32) → (Nat → Int32) → Prop, (∀ m a f d, zM B m → P (nI r) 0 a m f d) → wpX7_waits v1 0 m_answer m_s m_far m_drift P := fun P hp => hmo m_s (m_answer, m_far, m_drift) hM (fun r k m y => P r k y.1 m y.2.1 y.2.2) (fun m y hm => hp m y.1 y.2.1 y.2.2 hm)
    refine hcl _ (fun b1 b2 b3 b4 b5 b6 b7 b8 b9 b10 b11 b12 b13 b14 b15 hB => ?_)
    refine br_n (z_neg hr (by decide)) (k_push hf hc ?_)
    refine m_keeps hM (fun was hwas => hmo _ (fun m1 a1 f1 d1 hm1 => m_ends hf hc (zHr_w hf hc (Nat.le_refl tb) hh hR) hAt hRf hwas (fun ch p hHi => z_okL ?_)))
    exact hK _ _ _ _ _ _ _ _ _ _ _ _ _ _ _ _ _ _ _ _ _ _ _ _ _ _ _ ⟨B, by omega, hB, hm1⟩ (zHi_mono (by omega) hHi)
