/-! what a change does -/
theorem q_addStreet {tb : Nat} {Z : (Nat → Nat) → Prop} {A : Nat → Nat} {c : Nat} {h : Nat → Nat → Nat} {V : DV} (htb : tb + 6000 < 2 ^ 29) (hV : zST tb Z A c h V) {v1 v2 v3 v4 : Int32} {post : Int32 → DV → Prop} (hK : ∀ r V', zRq tb Z A c h (v1 = nI 0 → v2 = nI 1 → v3 = nI 97 → v4 = nI 3 → 1 ≤ A 1) (fun B => 1 ≤ B 1) r V' → post r V') : wpL_addStreet v1 v2 v3 v4 V post := by
  obtain ⟨⟨d1, d2, d3, w_reach, w_settled, d6⟩, ⟨t_time, t_store, t_rate, t_force, t_cleared, t_ploughed, t_failed, t_complained, s_lower, s_higher, s_kind, s_size, s_snow, s_saltEnd, s_complained, s_clearings, s_count, q_place, q_target, q_minutesLeft, q_waiting, q_orders, q_count⟩, F, S, ⟨h_free, h_count, R⟩, ⟨g1, g2, g3, b_mlt, b_countt, b_att, b_capt, b_bytest, b_mlo, b_counto, b_ato, b_capo, b_byteso⟩⟩ := V
  obtain ⟨hAt, hT, ⟨f, hf, hc, e1, e2, hh⟩, hZ, hP, hO⟩ := hV
  have e1 : h_free = nI f := e1
  have e2 : h_count = nI c := e2
  subst e1 e2
  have hT : zTc A t_time t_store t_rate t_force t_cleared t_ploughed t_failed t_complained s_lower s_higher s_kind s_size s_snow s_saltEnd s_complained s_clearings s_count q_place q_target q_minutesLeft q_waiting q_orders q_count := hT
  have hh : zHs tb f c h R := hh
  unfold wpL_addStreet wpP_addStreet wpX6_addStreet
  dsimp only
  refine k_write hT hf (fun R1 hR hRf => ?_)
  rcases o_street hT v1 v2 v3 v4 0 ((fun _ => 0), (fun _ => 0)) with ⟨cc, kk, hck, hE, hcl, -⟩ | ⟨B, r, hr, hg, hB0, hcl, -⟩
  · have hcl : ∀ P : Int32 → (Nat → Int32) → (Nat → Int32) → (Nat → Int32) → (Nat → Int32) → (Nat → Int32) → (Nat → Int32) → (Nat → Int32) → (Nat → Int32) → Int32 → Prop, P cc s_lower s_higher s_kind s_size s_snow s_saltEnd s_complained s_clearings s_count → wpX5_putStreet v1 v2 v3 v4 s_lower s_higher s_kind s_size s_snow s_saltEnd s_complained s_clearings s_count P := fun P hp => hcl (fun r u x => P r (u.2.2.2.2.2.2.2.2.1) (u.2.2.2.2.2.2.2.2.2.1) (u.2.2.2.2.2.2.2.2.2.2.1) (u.2.2.2.2.2.2.2.2.2.2.2.1) (u.2.2.2.2.2.2.2.2.2.2.2.2.1) (u.2.2.2.2.2.2.2.2.2.2.2.2.2.1) (u.2.2.2.2.2.2.2.2.2.2.2.2.2.2.1) (u.2.2.2.2.2.2.2.2.2.2.2.2.2.2.2.1) (u.2.2.2.2.2.2.2.2.2.2.2.2.2.2.2.2.1)) hp
    refine hcl _ ?_
    simp only [List.mem_cons, List.not_mem_nil, or_false, Prod.mk.injEq] at hck
    rcases hck with ⟨rfl, rfl⟩ | ⟨rfl, rfl⟩ | ⟨rfl, rfl⟩
    · refine br_m rfl ?_
      exact (Or.inl ⟨rfl, hK _ _ (Or.inl ⟨Or.inl rfl, hE, hAt, hT, ⟨f, hf, hc, rfl, rfl, zHs_w hf hc (Nat.le_refl _) hh hR⟩, hZ, hP, hO⟩)⟩)
    · refine br_n (by decide) (br_m rfl ?_)
      exact (Or.inr (Or.inl ⟨rfl, hK _ _ (Or.inl ⟨Or.inr (Or.inl rfl), hE, hAt, hT, ⟨f, hf, hc, rfl, rfl, zHs_w hf hc (Nat.le_refl _) hh hR⟩, hZ, hP, hO⟩)⟩))
    · refine br_n (by decide) (br_n (by decide) (br_m rfl ?_))
      exact (Or.inr (Or.inr ⟨rfl, hK _ _ (Or.inl ⟨Or.inr (Or.inr rfl), hE, hAt, hT, ⟨f, hf, hc, rfl, rfl, zHs_w hf hc (Nat.le_refl _) hh hR⟩, hZ, hP, hO⟩)⟩))
  · have hcl : ∀ P : Int32 → (Nat → Int32) → (Nat → Int32) → (Nat → Int32) → (Nat → Int32) → (Nat → Int32) → (Nat → Int32) → (Nat → Int32) → (Nat → Int32) → Int32 → Prop, (∀ b1 b2 b3 b4 b5 b6 b7 b8 b9, zTc B t_time t_store t_rate t_force t_cleared t_ploughed t_failed t_complained b1 b2 b3 b4 b5 b6 b7 b8 b9 q_place q_target q_minutesLeft q_waiting q_orders q_count → P (nI r) b1 b2 b3 b4 b5 b6 b7 b8 b9) → wpX5_putStreet v1 v2 v3 v4 s_lower s_higher s_kind s_size s_snow s_saltEnd s_complained s_clearings s_count P := fun P hp => hcl (fun r u x => P r (u.2.2.2.2.2.2.2.2.1) (u.2.2.2.2.2.2.2.2.2.1) (u.2.2.2.2.2.2.2.2.2.2.1) (u.2.2.2.2.2.2.2.2.2.2.2.1) (u.2.2.2.2.2.2.2.2.2.2.2.2.1) (u.2.2.2.2.2.2.2.2.2.2.2.2.2.1) (u.2.2.2.2.2.2.2.2.2.2.2.2.2.2.1) (u.2.2.2.2.2.2.2.2.2.2.2.2.2.2.2.1) (u.2.2.2.2.2.2.2.2.2.2.2.2.2.2.2.2.1)) (by
      rintro ⟨a1, a2, a3, a4, a5, a6, a7, a8, a9, a10, a11, a12, a13, a14, a15, a16, a17, a18, a19, a20, a21, a22, a23⟩ x hu hF
      dsimp only at hF
      obtain ⟨rfl, rfl, rfl, rfl, rfl, rfl, rfl, rfl, rfl, rfl, rfl, rfl, rfl, rfl⟩ := hF
      exact hp _ _ _ _ _ _ _ _ _ hu)
    refine hcl _ (fun b1 b2 b3 b4 b5 b6 b7 b8 b9 hB => ?_)
    refine br_n (z_neg hr (by decide)) (br_n (z_neg hr (by decide)) (br_n (z_neg hr (by decide)) (k_push hf hc ?_)))
    obtain ⟨h', hh', htop⟩ := zHs_p hf hc (Nat.le_add_right tb 6000) hh hR hRf (by omega)
    exact hK _ _ (Or.inr ⟨r, B, _, h', rfl, hg.1, hg.2, by split <;> omega, htop, by omega, hB, ⟨(f + 1) % 9, by omega, by split <;> omega, rfl, rfl, hh'⟩, hZ, hP, hO⟩)
theorem q_addPlough {tb : Nat} {Z : (Nat → Nat) → Prop} {A : Nat → Nat} {c : Nat} {h : Nat → Nat → Nat} {V : DV} (htb : tb + 6000 < 2 ^ 29) (hV : zST tb Z A c h V) {v1 : Int32} {post : Int32 → DV → Prop} (hK : ∀ r V', zRq tb Z A c h ((∃ a : Nat, a < 8 ∧ v1 = nI a) → 1 ≤ A 2) (fun B => 1 ≤ B 2) r V' → post r V') : wpL_addPlough v1 V post := by
  obtain ⟨⟨d1, d2, d3, w_reach, w_settled, d6⟩, ⟨t_time, t_store, t_rate, t_force, t_cleared, t_ploughed, t_failed, t_complained, s_lower, s_higher, s_kind, s_size, s_snow, s_saltEnd, s_complained, s_clearings, s_count, q_place, q_target, q_minutesLeft, q_waiting, q_orders, q_count⟩, F, S, ⟨h_free, h_count, R⟩, ⟨g1, g2, g3, b_mlt, b_countt, b_att, b_capt, b_bytest, b_mlo, b_counto, b_ato, b_capo, b_byteso⟩⟩ := V
  obtain ⟨hAt, hT, ⟨f, hf, hc, e1, e2, hh⟩, hZ, hP, hO⟩ := hV
  have e1 : h_free = nI f := e1
  have e2 : h_count = nI c := e2
  subst e1 e2
  have hT : zTc A t_time t_store t_rate t_force t_cleared t_ploughed t_failed t_complained s_lower s_higher s_kind s_size s_snow s_saltEnd s_complained s_clearings s_count q_place q_target q_minutesLeft q_waiting q_orders q_count := hT
  have hh : zHs tb f c h R := hh
  unfold wpL_addPlough wpP_addPlough wpX6_addPlough
  dsimp only
  refine k_write hT hf (fun R1 hR hRf => ?_)
  rcases o_plough hT v1 0 ((fun _ => 0), (fun _ => 0)) with ⟨cc, kk, hck, hE, hcl, -⟩ | ⟨B, r, hr, hg, hB0, hcl, -⟩
  · have hcl : ∀ P : Int32 → (Nat → Int32) → (Nat → Int32) → (Nat → Int32) → (Nat → Int32) → Int32 → Prop, P cc q_place q_target q_minutesLeft q_waiting q_count → wpX5_putPlough v1 q_place q_target q_minutesLeft q_waiting q_count P := fun P hp => hcl (fun r u x => P r (u.2.2.2.2.2.2.2.2.2.2.2.2.2.2.2.2.2.1) (u.2.2.2.2.2.2.2.2.2.2.2.2.2.2.2.2.2.2.1) (u.2.2.2.2.2.2.2.2.2.2.2.2.2.2.2.2.2.2.2.1) (u.2.2.2.2.2.2.2.2.2.2.2.2.2.2.2.2.2.2.2.2.1) (u.2.2.2.2.2.2.2.2.2.2.2.2.2.2.2.2.2.2.2.2.2.2)) hp
    refine hcl _ ?_
    simp only [List.mem_cons, List.not_mem_nil, or_false, Prod.mk.injEq] at hck
    rcases hck with ⟨rfl, rfl⟩ | ⟨rfl, rfl⟩
    · refine br_m rfl ?_
      exact (Or.inl ⟨rfl, hK _ _ (Or.inl ⟨Or.inl rfl, hE, hAt, hT, ⟨f, hf, hc, rfl, rfl, zHs_w hf hc (Nat.le_refl _) hh hR⟩, hZ, hP, hO⟩)⟩)
    · refine br_n (by decide) (br_m rfl ?_)
      exact (Or.inr ⟨rfl, hK _ _ (Or.inl ⟨Or.inr (Or.inl rfl), hE, hAt, hT, ⟨f, hf, hc, rfl, rfl, zHs_w hf hc (Nat.le_refl _) hh hR⟩, hZ, hP, hO⟩)⟩)
  · have hcl : ∀ P : Int32 → (Nat → Int32) → (Nat → Int32) → (Nat → Int32) → (Nat → Int32) → Int32 → Prop, (∀ b1 b2 b3 b4 b5, zTc B t_time t_store t_rate t_force t_cleared t_ploughed t_failed t_complained s_lower s_higher s_kind s_size s_snow s_saltEnd s_complained s_clearings s_count b1 b2 b3 b4 q_orders b5 → P (nI r) b1 b2 b3 b4 b5) → wpX5_putPlough v1 q_place q_target q_minutesLeft q_waiting q_count P := fun P hp => hcl (fun r u x => P r (u.2.2.2.2.2.2.2.2.2.2.2.2.2.2.2.2.2.1) (u.2.2.2.2.2.2.2.2.2.2.2.2.2.2.2.2.2.2.1) (u.2.2.2.2.2.2.2.2.2.2.2.2.2.2.2.2.2.2.2.1) (u.2.2.2.2.2.2.2.2.2.2.2.2.2.2.2.2.2.2.2.2.1) (u.2.2.2.2.2.2.2.2.2.2.2.2.2.2.2.2.2.2.2.2.2.2)) (by
      rintro ⟨a1, a2, a3, a4, a5, a6, a7, a8, a9, a10, a11, a12, a13, a14, a15, a16, a17, a18, a19, a20, a21, a22, a23⟩ x hu hF
      dsimp only at hF
      obtain ⟨rfl, rfl, rfl, rfl, rfl, rfl, rfl, rfl, rfl, rfl, rfl, rfl, rfl, rfl, rfl, rfl, rfl, rfl⟩ := hF
      exact hp _ _ _ _ _ hu)
    refine hcl _ (fun b1 b2 b3 b4 b5 hB => ?_)
    refine br_n (z_neg hr (by decide)) (br_n (z_neg hr (by decide)) (k_push hf hc ?_))
    obtain ⟨h', hh', htop⟩ := zHs_p hf hc (Nat.le_add_right tb 6000) hh hR hRf (by omega)
    exact hK _ _ (Or.inr ⟨r, B, _, h', rfl, hg.1, hg.2, by split <;> omega, htop, by omega, hB, ⟨(f + 1) % 9, by omega, by split <;> omega, rfl, rfl, hh'⟩, hZ, hP, hO⟩)
theorem q_order {tb : Nat} {Z : (Nat → Nat) → Prop} {A : Nat → Nat} {c : Nat} {h : Nat → Nat → Nat} {V : DV} (htb : tb + 6000 < 2 ^ 29) (hV : zST tb Z A c h V) {v1 v2 : Int32} {post : Int32 → DV → Prop} (hK : ∀ r V', zRq tb Z A c h True (fun _ => True) r V' → post r V') : wpL_order v1 v2 V post := by
  obtain ⟨⟨d1, d2, d3, w_reach, w_settled, d6⟩, ⟨t_time, t_store, t_rate, t_force, t_cleared, t_ploughed, t_failed, t_complained, s_lower, s_higher, s_kind, s_size, s_snow, s_saltEnd, s_complained, s_clearings, s_count, q_place, q_target, q_minutesLeft, q_waiting, q_orders, q_count⟩, F, S, ⟨h_free, h_count, R⟩, ⟨g1, g2, g3, b_mlt, b_countt, b_att, b_capt, b_bytest, b_mlo, b_counto, b_ato, b_capo, b_byteso⟩⟩ := V
  obtain ⟨hAt, hT, ⟨f, hf, hc, e1, e2, hh⟩, hZ, hP, hO⟩ := hV
  have e1 : h_free = nI f := e1
  have e2 : h_count = nI c := e2
  subst e1 e2
  have hT : zTc A t_time t_store t_rate t_force t_cleared t_ploughed t_failed t_complained s_lower s_higher s_kind s_size s_snow s_saltEnd s_complained s_clearings s_count q_place q_target q_minutesLeft q_waiting q_orders q_count := hT
  have hh : zHs tb f c h R := hh
  unfold wpL_order wpP_order wpX6_order
  dsimp only
  refine k_write hT hf (fun R1 hR hRf => ?_)
  rcases o_order hT v1 v2 0 ((fun _ => 0), (fun _ => 0)) with ⟨cc, kk, hck, hE, hcl, -⟩ | ⟨B, r, hr, hg, hB0, hcl, -⟩
  · have hcl : ∀ P : Int32 → (Nat → Int32) → (Nat → Int32) → Prop, P cc q_waiting q_orders → wpX5_appendOrder v1 v2 s_count q_waiting q_orders q_count P := fun P hp => hcl (fun r u x => P r (u.2.2.2.2.2.2.2.2.2.2.2.2.2.2.2.2.2.2.2.2.1) (u.2.2.2.2.2.2.2.2.2.2.2.2.2.2.2.2.2.2.2.2.2.1)) hp
    refine hcl _ ?_
    simp only [List.mem_cons, List.not_mem_nil, or_false, Prod.mk.injEq] at hck
    rcases hck with ⟨rfl, rfl⟩ | ⟨rfl, rfl⟩
    · refine br_m rfl ?_
      exact (Or.inl ⟨rfl, hK _ _ (Or.inl ⟨Or.inl rfl, hE, hAt, hT, ⟨f, hf, hc, rfl, rfl, zHs_w hf hc (Nat.le_refl _) hh hR⟩, hZ, hP, hO⟩)⟩)
    · refine br_n (by decide) (br_m rfl ?_)
      exact (Or.inr ⟨rfl, hK _ _ (Or.inl ⟨Or.inr (Or.inl rfl), hE, hAt, hT, ⟨f, hf, hc, rfl, rfl, zHs_w hf hc (Nat.le_refl _) hh hR⟩, hZ, hP, hO⟩)⟩)
  · have hcl : ∀ P : Int32 → (Nat → Int32) → (Nat → Int32) → Prop, (∀ b1 b2, zTc B t_time t_store t_rate t_force t_cleared t_ploughed t_failed t_complained s_lower s_higher s_kind s_size s_snow s_saltEnd s_complained s_clearings s_count q_place q_target q_minutesLeft b1 b2 q_count → P (nI r) b1 b2) → wpX5_appendOrder v1 v2 s_count q_waiting q_orders q_count P := fun P hp => hcl (fun r u x => P r (u.2.2.2.2.2.2.2.2.2.2.2.2.2.2.2.2.2.2.2.2.1) (u.2.2.2.2.2.2.2.2.2.2.2.2.2.2.2.2.2.2.2.2.2.1)) (by
      rintro ⟨a1, a2, a3, a4, a5, a6, a7, a8, a9, a10, a11, a12, a13, a14, a15, a16, a17, a18, a19, a20, a21, a22, a23⟩ x hu hF
      dsimp only at hF
      obtain ⟨rfl, rfl, rfl, rfl, rfl, rfl, rfl, rfl, rfl, rfl, rfl, rfl, rfl, rfl, rfl, rfl, rfl, rfl, rfl, rfl, rfl⟩ := hF
      exact hp _ _ hu)
    refine hcl _ (fun b1 b2 hB => ?_)
    refine br_n (z_neg hr (by decide)) (br_n (z_neg hr (by decide)) (k_push hf hc ?_))
    obtain ⟨h', hh', htop⟩ := zHs_p hf hc (Nat.le_add_right tb 6000) hh hR hRf (by omega)
    exact hK _ _ (Or.inr ⟨r, B, _, h', rfl, hg.1, hg.2, by split <;> omega, htop, by omega, hB, ⟨(f + 1) % 9, by omega, by split <;> omega, rfl, rfl, hh'⟩, hZ, hP, hO⟩)
theorem q_cancelOrder {tb : Nat} {Z : (Nat → Nat) → Prop} {A : Nat → Nat} {c : Nat} {h : Nat → Nat → Nat} {V : DV} (htb : tb + 6000 < 2 ^ 29) (hV : zST tb Z A c h V) {v1 : Int32} {post : Int32 → DV → Prop} (hK : ∀ r V', zRq tb Z A c h True (fun _ => True) r V' → post r V') : wpL_cancelOrder v1 V post := by
  obtain ⟨⟨d1, d2, d3, w_reach, w_settled, d6⟩, ⟨t_time, t_store, t_rate, t_force, t_cleared, t_ploughed, t_failed, t_complained, s_lower, s_higher, s_kind, s_size, s_snow, s_saltEnd, s_complained, s_clearings, s_count, q_place, q_target, q_minutesLeft, q_waiting, q_orders, q_count⟩, F, S, ⟨h_free, h_count, R⟩, ⟨g1, g2, g3, b_mlt, b_countt, b_att, b_capt, b_bytest, b_mlo, b_counto, b_ato, b_capo, b_byteso⟩⟩ := V
  obtain ⟨hAt, hT, ⟨f, hf, hc, e1, e2, hh⟩, hZ, hP, hO⟩ := hV
  have e1 : h_free = nI f := e1
  have e2 : h_count = nI c := e2
  subst e1 e2
  have hT : zTc A t_time t_store t_rate t_force t_cleared t_ploughed t_failed t_complained s_lower s_higher s_kind s_size s_snow s_saltEnd s_complained s_clearings s_count q_place q_target q_minutesLeft q_waiting q_orders q_count := hT
  have hh : zHs tb f c h R := hh
  unfold wpL_cancelOrder wpP_cancelOrder wpX6_cancelOrder
  dsimp only
  refine k_write hT hf (fun R1 hR hRf => ?_)
  rcases o_cancel hT v1 0 ((fun _ => 0), (fun _ => 0)) with ⟨cc, kk, hck, hE, hcl, -⟩ | ⟨B, r, hr, hg, hB0, hcl, -⟩
  · have hcl : ∀ P : Int32 → (Nat → Int32) → Prop, P cc q_waiting → wpX5_removeOrder v1 q_waiting q_orders q_count P := fun P hp => hcl (fun r u x => P r (u.2.2.2.2.2.2.2.2.2.2.2.2.2.2.2.2.2.2.2.2.1)) hp
    refine hcl _ ?_
    simp only [List.mem_cons, List.not_mem_nil, or_false, Prod.mk.injEq] at hck
    rcases hck with ⟨rfl, rfl⟩ | ⟨rfl, rfl⟩
    · refine br_m rfl ?_
      exact (Or.inl ⟨rfl, hK _ _ (Or.inl ⟨Or.inl rfl, hE, hAt, hT, ⟨f, hf, hc, rfl, rfl, zHs_w hf hc (Nat.le_refl _) hh hR⟩, hZ, hP, hO⟩)⟩)
    · refine br_n (by decide) (br_m rfl ?_)
      exact (Or.inr ⟨rfl, hK _ _ (Or.inl ⟨Or.inr (Or.inl rfl), hE, hAt, hT, ⟨f, hf, hc, rfl, rfl, zHs_w hf hc (Nat.le_refl _) hh hR⟩, hZ, hP, hO⟩)⟩)
  · have hcl : ∀ P : Int32 → (Nat → Int32) → Prop, (∀ b1, zTc B t_time t_store t_rate t_force t_cleared t_ploughed t_failed t_complained s_lower s_higher s_kind s_size s_snow s_saltEnd s_complained s_clearings s_count q_place q_target q_minutesLeft b1 q_orders q_count → P (nI r) b1) → wpX5_removeOrder v1 q_waiting q_orders q_count P := fun P hp => hcl (fun r u x => P r (u.2.2.2.2.2.2.2.2.2.2.2.2.2.2.2.2.2.2.2.2.1)) (by
      rintro ⟨a1, a2, a3, a4, a5, a6, a7, a8, a9, a10, a11, a12, a13, a14, a15, a16, a17, a18, a19, a20, a21, a22, a23⟩ x hu hF
      dsimp only at hF
      obtain ⟨rfl, rfl, rfl, rfl, rfl, rfl, rfl, rfl, rfl, rfl, rfl, rfl, rfl, rfl, rfl, rfl, rfl, rfl, rfl, rfl, rfl, rfl⟩ := hF
      exact hp _ hu)
    refine hcl _ (fun b1 hB => ?_)
    refine br_n (z_neg hr (by decide)) (br_n (z_neg hr (by decide)) (k_push hf hc ?_))
    obtain ⟨h', hh', htop⟩ := zHs_p hf hc (Nat.le_add_right tb 6000) hh hR hRf (by omega)
    exact hK _ _ (Or.inr ⟨r, B, _, h', rfl, hg.1, hg.2, by split <;> omega, htop, by omega, hB, ⟨(f + 1) % 9, by omega, by split <;> omega, rfl, rfl, hh'⟩, hZ, hP, hO⟩)
theorem q_salt {tb : Nat} {Z : (Nat → Nat) → Prop} {A : Nat → Nat} {c : Nat} {h : Nat → Nat → Nat} {V : DV} (htb : tb + 6000 < 2 ^ 29) (hV : zST tb Z A c h V) {v1 : Int32} {post : Int32 → DV → Prop} (hK : ∀ r V', zRq tb Z A c h True (fun _ => True) r V' → post r V') : wpL_salt v1 V post := by
  obtain ⟨⟨d1, d2, d3, w_reach, w_settled, d6⟩, ⟨t_time, t_store, t_rate, t_force, t_cleared, t_ploughed, t_failed, t_complained, s_lower, s_higher, s_kind, s_size, s_snow, s_saltEnd, s_complained, s_clearings, s_count, q_place, q_target, q_minutesLeft, q_waiting, q_orders, q_count⟩, F, S, ⟨h_free, h_count, R⟩, ⟨g1, g2, g3, b_mlt, b_countt, b_att, b_capt, b_bytest, b_mlo, b_counto, b_ato, b_capo, b_byteso⟩⟩ := V
  obtain ⟨hAt, hT, ⟨f, hf, hc, e1, e2, hh⟩, hZ, hP, hO⟩ := hV
  have e1 : h_free = nI f := e1
  have e2 : h_count = nI c := e2
  subst e1 e2
  have hT : zTc A t_time t_store t_rate t_force t_cleared t_ploughed t_failed t_complained s_lower s_higher s_kind s_size s_snow s_saltEnd s_complained s_clearings s_count q_place q_target q_minutesLeft q_waiting q_orders q_count := hT
  have hh : zHs tb f c h R := hh
  unfold wpL_salt wpP_salt wpX6_salt
  dsimp only
  refine k_write hT hf (fun R1 hR hRf => ?_)
  rcases o_salt hT (by omega) v1 0 ((fun _ => 0), (fun _ => 0)) with ⟨cc, kk, hck, hE, hcl, -⟩ | ⟨B, r, hr, hg, hB0, hcl, -⟩
  · have hcl : ∀ P : Int32 → Int32 → (Nat → Int32) → Prop, P cc t_store s_saltEnd → wpX5_spreadSalt v1 t_time t_store s_size s_saltEnd s_count P := fun P hp => hcl (fun r u x => P r (u.2.1) (u.2.2.2.2.2.2.2.2.2.2.2.2.2.1)) hp
    refine hcl _ ?_
    simp only [List.mem_cons, List.not_mem_nil, or_false, Prod.mk.injEq] at hck
    rcases hck with ⟨rfl, rfl⟩ | ⟨rfl, rfl⟩ | ⟨rfl, rfl⟩
    · refine br_m rfl ?_
      exact (Or.inl ⟨rfl, hK _ _ (Or.inl ⟨Or.inl rfl, hE, hAt, hT, ⟨f, hf, hc, rfl, rfl, zHs_w hf hc (Nat.le_refl _) hh hR⟩, hZ, hP, hO⟩)⟩)
    · refine br_n (by decide) (br_m rfl ?_)
      exact (Or.inr (Or.inl ⟨rfl, hK _ _ (Or.inl ⟨Or.inr (Or.inl rfl), hE, hAt, hT, ⟨f, hf, hc, rfl, rfl, zHs_w hf hc (Nat.le_refl _) hh hR⟩, hZ, hP, hO⟩)⟩))
    · refine br_n (by decide) (br_n (by decide) (br_m rfl ?_))
      exact (Or.inr (Or.inr ⟨rfl, hK _ _ (Or.inl ⟨Or.inr (Or.inr rfl), hE, hAt, hT, ⟨f, hf, hc, rfl, rfl, zHs_w hf hc (Nat.le_refl _) hh hR⟩, hZ, hP, hO⟩)⟩))
  · have hcl : ∀ P : Int32 → Int32 → (Nat → Int32) → Prop, (∀ b1 b2, zTc B t_time b1 t_rate t_force t_cleared t_ploughed t_failed t_complained s_lower s_higher s_kind s_size s_snow b2 s_complained s_clearings s_count q_place q_target q_minutesLeft q_waiting q_orders q_count → P (nI r) b1 b2) → wpX5_spreadSalt v1 t_time t_store s_size s_saltEnd s_count P := fun P hp => hcl (fun r u x => P r (u.2.1) (u.2.2.2.2.2.2.2.2.2.2.2.2.2.1)) (by
      rintro ⟨a1, a2, a3, a4, a5, a6, a7, a8, a9, a10, a11, a12, a13, a14, a15, a16, a17, a18, a19, a20, a21, a22, a23⟩ x hu hF
      dsimp only at hF
      obtain ⟨rfl, rfl, rfl, rfl, rfl, rfl, rfl, rfl, rfl, rfl, rfl, rfl, rfl, rfl, rfl, rfl, rfl, rfl, rfl, rfl, rfl⟩ := hF
      exact hp _ _ hu)
    refine hcl _ (fun b1 b2 hB => ?_)
    refine br_n (z_neg hr (by decide)) (br_n (z_neg hr (by decide)) (br_n (z_neg hr (by decide)) (k_push hf hc ?_)))
    obtain ⟨h', hh', htop⟩ := zHs_p hf hc (Nat.le_add_right tb 6000) hh hR hRf (by omega)
    exact hK _ _ (Or.inr ⟨r, B, _, h', rfl, hg.1, hg.2, by split <;> omega, htop, by omega, hB, ⟨(f + 1) % 9, by omega, by split <;> omega, rfl, rfl, hh'⟩, hZ, hP, hO⟩)
theorem q_loadSalt {tb : Nat} {Z : (Nat → Nat) → Prop} {A : Nat → Nat} {c : Nat} {h : Nat → Nat → Nat} {V : DV} (htb : tb + 6000 < 2 ^ 29) (hV : zST tb Z A c h V) {v1 : Int32} {post : Int32 → DV → Prop} (hK : ∀ r V', zRq tb Z A c h True (fun _ => True) r V' → post r V') : wpL_loadSalt v1 V post := by
  obtain ⟨⟨d1, d2, d3, w_reach, w_settled, d6⟩, ⟨t_time, t_store, t_rate, t_force, t_cleared, t_ploughed, t_failed, t_complained, s_lower, s_higher, s_kind, s_size, s_snow, s_saltEnd, s_complained, s_clearings, s_count, q_place, q_target, q_minutesLeft, q_waiting, q_orders, q_count⟩, F, S, ⟨h_free, h_count, R⟩, ⟨g1, g2, g3, b_mlt, b_countt, b_att, b_capt, b_bytest, b_mlo, b_counto, b_ato, b_capo, b_byteso⟩⟩ := V
  obtain ⟨hAt, hT, ⟨f, hf, hc, e1, e2, hh⟩, hZ, hP, hO⟩ := hV
  have e1 : h_free = nI f := e1
  have e2 : h_count = nI c := e2
  subst e1 e2
  have hT : zTc A t_time t_store t_rate t_force t_cleared t_ploughed t_failed t_complained s_lower s_higher s_kind s_size s_snow s_saltEnd s_complained s_clearings s_count q_place q_target q_minutesLeft q_waiting q_orders q_count := hT
  have hh : zHs tb f c h R := hh
  unfold wpL_loadSalt wpP_loadSalt wpX6_loadSalt
  dsimp only
  refine k_write hT hf (fun R1 hR hRf => ?_)
  rcases o_load hT v1 0 ((fun _ => 0), (fun _ => 0)) with ⟨cc, kk, hck, hE, hcl, -⟩ | ⟨B, r, hr, hg, hB0, hcl, -⟩
  · have hcl : ∀ P : Int32 → Int32 → Prop, P cc t_store → wpX5_fillStore v1 t_store P := fun P hp => hcl (fun r u x => P r (u.2.1)) hp
    refine hcl _ ?_
    simp only [List.mem_cons, List.not_mem_nil, or_false, Prod.mk.injEq] at hck
    rcases hck with ⟨rfl, rfl⟩ | ⟨rfl, rfl⟩
    · refine br_m rfl ?_
      exact (Or.inl ⟨rfl, hK _ _ (Or.inl ⟨Or.inl rfl, hE, hAt, hT, ⟨f, hf, hc, rfl, rfl, zHs_w hf hc (Nat.le_refl _) hh hR⟩, hZ, hP, hO⟩)⟩)
    · refine br_n (by decide) (br_m rfl ?_)
      exact (Or.inr ⟨rfl, hK _ _ (Or.inl ⟨Or.inr (Or.inl rfl), hE, hAt, hT, ⟨f, hf, hc, rfl, rfl, zHs_w hf hc (Nat.le_refl _) hh hR⟩, hZ, hP, hO⟩)⟩)
  · have hcl : ∀ P : Int32 → Int32 → Prop, (∀ b1, zTc B t_time b1 t_rate t_force t_cleared t_ploughed t_failed t_complained s_lower s_higher s_kind s_size s_snow s_saltEnd s_complained s_clearings s_count q_place q_target q_minutesLeft q_waiting q_orders q_count → P (nI r) b1) → wpX5_fillStore v1 t_store P := fun P hp => hcl (fun r u x => P r (u.2.1)) (by
      rintro ⟨a1, a2, a3, a4, a5, a6, a7, a8, a9, a10, a11, a12, a13, a14, a15, a16, a17, a18, a19, a20, a21, a22, a23⟩ x hu hF
      dsimp only at hF
      obtain ⟨rfl, rfl, rfl, rfl, rfl, rfl, rfl, rfl, rfl, rfl, rfl, rfl, rfl, rfl, rfl, rfl, rfl, rfl, rfl, rfl, rfl, rfl⟩ := hF
      exact hp _ hu)
    refine hcl _ (fun b1 hB => ?_)
    refine br_n (z_neg hr (by decide)) (br_n (z_neg hr (by decide)) (k_push hf hc ?_))
    obtain ⟨h', hh', htop⟩ := zHs_p hf hc (Nat.le_add_right tb 6000) hh hR hRf (by omega)
    exact hK _ _ (Or.inr ⟨r, B, _, h', rfl, hg.1, hg.2, by split <;> omega, htop, by omega, hB, ⟨(f + 1) % 9, by omega, by split <;> omega, rfl, rfl, hh'⟩, hZ, hP, hO⟩)
theorem q_setSnowfall {tb : Nat} {Z : (Nat → Nat) → Prop} {A : Nat → Nat} {c : Nat} {h : Nat → Nat → Nat} {V : DV} (htb : tb + 6000 < 2 ^ 29) (hV : zST tb Z A c h V) {v1 : Int32} {post : Int32 → DV → Prop} (hK : ∀ r V', zRq tb Z A c h True (fun _ => True) r V' → post r V') : wpL_setSnowfall v1 V post := by
  obtain ⟨⟨d1, d2, d3, w_reach, w_settled, d6⟩, ⟨t_time, t_store, t_rate, t_force, t_cleared, t_ploughed, t_failed, t_complained, s_lower, s_higher, s_kind, s_size, s_snow, s_saltEnd, s_complained, s_clearings, s_count, q_place, q_target, q_minutesLeft, q_waiting, q_orders, q_count⟩, F, S, ⟨h_free, h_count, R⟩, ⟨g1, g2, g3, b_mlt, b_countt, b_att, b_capt, b_bytest, b_mlo, b_counto, b_ato, b_capo, b_byteso⟩⟩ := V
  obtain ⟨hAt, hT, ⟨f, hf, hc, e1, e2, hh⟩, hZ, hP, hO⟩ := hV
  have e1 : h_free = nI f := e1
  have e2 : h_count = nI c := e2
  subst e1 e2
  have hT : zTc A t_time t_store t_rate t_force t_cleared t_ploughed t_failed t_complained s_lower s_higher s_kind s_size s_snow s_saltEnd s_complained s_clearings s_count q_place q_target q_minutesLeft q_waiting q_orders q_count := hT
  have hh : zHs tb f c h R := hh
  unfold wpL_setSnowfall wpP_setSnowfall wpX6_setSnowfall
  dsimp only
  refine k_write hT hf (fun R1 hR hRf => ?_)
  rcases o_rate hT v1 0 ((fun _ => 0), (fun _ => 0)) with ⟨cc, kk, hck, hE, hcl, -⟩ | ⟨B, r, hr, hg, hB0, hcl, -⟩
  · have hcl : ∀ P : Int32 → Int32 → Prop, P cc t_rate → wpX5_changeRate v1 t_rate P := fun P hp => hcl (fun r u x => P r (u.2.2.1)) hp
    refine hcl _ ?_
    simp only [List.mem_cons, List.not_mem_nil, or_false, Prod.mk.injEq] at hck
    rcases hck with ⟨rfl, rfl⟩
    · refine br_m rfl ?_
      exact ⟨rfl, hK _ _ (Or.inl ⟨Or.inl rfl, hE, hAt, hT, ⟨f, hf, hc, rfl, rfl, zHs_w hf hc (Nat.le_refl _) hh hR⟩, hZ, hP, hO⟩)⟩
  · have hcl : ∀ P : Int32 → Int32 → Prop, (∀ b1, zTc B t_time t_store b1 t_force t_cleared t_ploughed t_failed t_complained s_lower s_higher s_kind s_size s_snow s_saltEnd s_complained s_clearings s_count q_place q_target q_minutesLeft q_waiting q_orders q_count → P (nI r) b1) → wpX5_changeRate v1 t_rate P := fun P hp => hcl (fun r u x => P r (u.2.2.1)) (by
      rintro ⟨a1, a2, a3, a4, a5, a6, a7, a8, a9, a10, a11, a12, a13, a14, a15, a16, a17, a18, a19, a20, a21, a22, a23⟩ x hu hF
      dsimp only at hF
      obtain ⟨rfl, rfl, rfl, rfl, rfl, rfl, rfl, rfl, rfl, rfl, rfl, rfl, rfl, rfl, rfl, rfl, rfl, rfl, rfl, rfl, rfl, rfl⟩ := hF
      exact hp _ hu)
    refine hcl _ (fun b1 hB => ?_)
    refine br_n (z_neg hr (by decide)) (k_push hf hc ?_)
    obtain ⟨h', hh', htop⟩ := zHs_p hf hc (Nat.le_add_right tb 6000) hh hR hRf (by omega)
    exact hK _ _ (Or.inr ⟨r, B, _, h', rfl, hg.1, hg.2, by split <;> omega, htop, by omega, hB, ⟨(f + 1) % 9, by omega, by split <;> omega, rfl, rfl, hh'⟩, hZ, hP, hO⟩)
theorem q_setWind {tb : Nat} {Z : (Nat → Nat) → Prop} {A : Nat → Nat} {c : Nat} {h : Nat → Nat → Nat} {V : DV} (htb : tb + 6000 < 2 ^ 29) (hV : zST tb Z A c h V) {v1 : Int32} {post : Int32 → DV → Prop} (hK : ∀ r V', zRq tb Z A c h True (fun _ => True) r V' → post r V') : wpL_setWind v1 V post := by
  obtain ⟨⟨d1, d2, d3, w_reach, w_settled, d6⟩, ⟨t_time, t_store, t_rate, t_force, t_cleared, t_ploughed, t_failed, t_complained, s_lower, s_higher, s_kind, s_size, s_snow, s_saltEnd, s_complained, s_clearings, s_count, q_place, q_target, q_minutesLeft, q_waiting, q_orders, q_count⟩, F, S, ⟨h_free, h_count, R⟩, ⟨g1, g2, g3, b_mlt, b_countt, b_att, b_capt, b_bytest, b_mlo, b_counto, b_ato, b_capo, b_byteso⟩⟩ := V
  obtain ⟨hAt, hT, ⟨f, hf, hc, e1, e2, hh⟩, hZ, hP, hO⟩ := hV
  have e1 : h_free = nI f := e1
  have e2 : h_count = nI c := e2
  subst e1 e2
  have hT : zTc A t_time t_store t_rate t_force t_cleared t_ploughed t_failed t_complained s_lower s_higher s_kind s_size s_snow s_saltEnd s_complained s_clearings s_count q_place q_target q_minutesLeft q_waiting q_orders q_count := hT
  have hh : zHs tb f c h R := hh
  unfold wpL_setWind wpP_setWind wpX6_setWind
  dsimp only
  refine k_write hT hf (fun R1 hR hRf => ?_)
  rcases o_wind hT v1 0 ((fun _ => 0), (fun _ => 0)) with ⟨cc, kk, hck, hE, hcl, -⟩ | ⟨B, r, hr, hg, hB0, hcl, -⟩
  · have hcl : ∀ P : Int32 → Int32 → Prop, P cc t_force → wpX5_changeForce v1 t_force P := fun P hp => hcl (fun r u x => P r (u.2.2.2.1)) hp
    refine hcl _ ?_
    simp only [List.mem_cons, List.not_mem_nil, or_false, Prod.mk.injEq] at hck
    rcases hck with ⟨rfl, rfl⟩
    · refine br_m rfl ?_
      exact ⟨rfl, hK _ _ (Or.inl ⟨Or.inl rfl, hE, hAt, hT, ⟨f, hf, hc, rfl, rfl, zHs_w hf hc (Nat.le_refl _) hh hR⟩, hZ, hP, hO⟩)⟩
  · have hcl : ∀ P : Int32 → Int32 → Prop, (∀ b1, zTc B t_time t_store t_rate b1 t_cleared t_ploughed t_failed t_complained s_lower s_higher s_kind s_size s_snow s_saltEnd s_complained s_clearings s_count q_place q_target q_minutesLeft q_waiting q_orders q_count → P (nI r) b1) → wpX5_changeForce v1 t_force P := fun P hp => hcl (fun r u x => P r (u.2.2.2.1)) (by
      rintro ⟨a1, a2, a3, a4, a5, a6, a7, a8, a9, a10, a11, a12, a13, a14, a15, a16, a17, a18, a19, a20, a21, a22, a23⟩ x hu hF
      dsimp only at hF
      obtain ⟨rfl, rfl, rfl, rfl, rfl, rfl, rfl, rfl, rfl, rfl, rfl, rfl, rfl, rfl, rfl, rfl, rfl, rfl, rfl, rfl, rfl, rfl⟩ := hF
      exact hp _ hu)
    refine hcl _ (fun b1 hB => ?_)
    refine br_n (z_neg hr (by decide)) (k_push hf hc ?_)
    obtain ⟨h', hh', htop⟩ := zHs_p hf hc (Nat.le_add_right tb 6000) hh hR hRf (by omega)
    exact hK _ _ (Or.inr ⟨r, B, _, h', rfl, hg.1, hg.2, by split <;> omega, htop, by omega, hB, ⟨(f + 1) % 9, by omega, by split <;> omega, rfl, rfl, hh'⟩, hZ, hP, hO⟩)
theorem q_advance {tb : Nat} {Z : (Nat → Nat) → Prop} {A : Nat → Nat} {c : Nat} {h : Nat → Nat → Nat} {V : DV} (htb : tb + 6000 < 2 ^ 29) (hV : zST tb Z A c h V) {v1 : Int32} {post : Int32 → DV → Prop} (hK : ∀ r V', zRq tb Z A c h True (fun _ => True) r V' → post r V') : wpL_advance v1 V post := by
  obtain ⟨⟨d1, d2, d3, w_reach, w_settled, d6⟩, ⟨t_time, t_store, t_rate, t_force, t_cleared, t_ploughed, t_failed, t_complained, s_lower, s_higher, s_kind, s_size, s_snow, s_saltEnd, s_complained, s_clearings, s_count, q_place, q_target, q_minutesLeft, q_waiting, q_orders, q_count⟩, F, S, ⟨h_free, h_count, R⟩, ⟨g1, g2, g3, b_mlt, b_countt, b_att, b_capt, b_bytest, b_mlo, b_counto, b_ato, b_capo, b_byteso⟩⟩ := V
  obtain ⟨hAt, hT, ⟨f, hf, hc, e1, e2, hh⟩, hZ, hP, hO⟩ := hV
  have e1 : h_free = nI f := e1
  have e2 : h_count = nI c := e2
  subst e1 e2
  have hT : zTc A t_time t_store t_rate t_force t_cleared t_ploughed t_failed t_complained s_lower s_higher s_kind s_size s_snow s_saltEnd s_complained s_clearings s_count q_place q_target q_minutesLeft q_waiting q_orders q_count := hT
  have hh : zHs tb f c h R := hh
  unfold wpL_advance wpP_advance wpX6_advance
  dsimp only
  refine k_write hT hf (fun R1 hR hRf => ?_)
  rcases o_wait hT (by omega) v1 0 (w_reach, w_settled) with ⟨cc, kk, hck, hE, hcl, -⟩ | ⟨B, r, hr, hg, hB0, hcl, -⟩
  · have hcl : ∀ P : Int32 → Int32 → Int32 → Int32 → Int32 → Int32 → (Nat → Int32) → (Nat → Int32) → (Nat → Int32) → (Nat → Int32) → (Nat → Int32) → (Nat → Int32) → (Nat → Int32) → (Nat → Int32) → (Nat → Int32) → (Nat → Int32) → Prop, P cc t_time t_cleared t_ploughed t_failed t_complained w_reach w_settled s_snow s_complained s_clearings q_place q_target q_minutesLeft q_waiting q_orders → wpX5_passMinutes v1 t_time t_rate t_force t_cleared t_ploughed t_failed t_complained w_reach w_settled s_lower s_higher s_kind s_size s_snow s_saltEnd s_complained s_clearings s_count q_place q_target q_minutesLeft q_waiting q_orders q_count P := fun P hp => hcl (fun r u x => P r (u.1) (u.2.2.2.2.1) (u.2.2.2.2.2.1) (u.2.2.2.2.2.2.1) (u.2.2.2.2.2.2.2.1) x.1 x.2 (u.2.2.2.2.2.2.2.2.2.2.2.2.1) (u.2.2.2.2.2.2.2.2.2.2.2.2.2.2.1) (u.2.2.2.2.2.2.2.2.2.2.2.2.2.2.2.1) (u.2.2.2.2.2.2.2.2.2.2.2.2.2.2.2.2.2.1) (u.2.2.2.2.2.2.2.2.2.2.2.2.2.2.2.2.2.2.1) (u.2.2.2.2.2.2.2.2.2.2.2.2.2.2.2.2.2.2.2.1) (u.2.2.2.2.2.2.2.2.2.2.2.2.2.2.2.2.2.2.2.2.1) (u.2.2.2.2.2.2.2.2.2.2.2.2.2.2.2.2.2.2.2.2.2.1)) hp
    refine hcl _ ?_
    simp only [List.mem_cons, List.not_mem_nil, or_false, Prod.mk.injEq] at hck
    rcases hck with ⟨rfl, rfl⟩
    · refine br_m rfl ?_
      exact ⟨rfl, hK _ _ (Or.inl ⟨Or.inl rfl, hE, hAt, hT, ⟨f, hf, hc, rfl, rfl, zHs_w hf hc (Nat.le_refl _) hh hR⟩, hZ, hP, hO⟩)⟩
  · have hcl : ∀ P : Int32 → Int32 → Int32 → Int32 → Int32 → Int32 → (Nat → Int32) → (Nat → Int32) → (Nat → Int32) → (Nat → Int32) → (Nat → Int32) → (Nat → Int32) → (Nat → Int32) → (Nat → Int32) → (Nat → Int32) → (Nat → Int32) → Prop, (∀ b1 b2 b3 b4 b5 b6 b7 b8 b9 b10 b11 b12 b13 b14 b15, zTc B b1 t_store t_rate t_force b2 b3 b4 b5 s_lower s_higher s_kind s_size b8 s_saltEnd b9 b10 s_count b11 b12 b13 b14 b15 q_count → P (nI r) b1 b2 b3 b4 b5 b6 b7 b8 b9 b10 b11 b12 b13 b14 b15) → wpX5_passMinutes v1 t_time t_rate t_force t_cleared t_ploughed t_failed t_complained w_reach w_settled s_lower s_higher s_kind s_size s_snow s_saltEnd s_complained s_clearings s_count q_place q_target q_minutesLeft q_waiting q_orders q_count P := fun P hp => hcl (fun r u x => P r (u.1) (u.2.2.2.2.1) (u.2.2.2.2.2.1) (u.2.2.2.2.2.2.1) (u.2.2.2.2.2.2.2.1) x.1 x.2 (u.2.2.2.2.2.2.2.2.2.2.2.2.1) (u.2.2.2.2.2.2.2.2.2.2.2.2.2.2.1) (u.2.2.2.2.2.2.2.2.2.2.2.2.2.2.2.1) (u.2.2.2.2.2.2.2.2.2.2.2.2.2.2.2.2.2.1) (u.2.2.2.2.2.2.2.2.2.2.2.2.2.2.2.2.2.2.1) (u.2.2.2.2.2.2.2.2.2.2.2.2.2.2.2.2.2.2.2.1) (u.2.2.2.2.2.2.2.2.2.2.2.2.2.2.2.2.2.2.2.2.1) (u.2.2.2.2.2.2.2.2.2.2.2.2.2.2.2.2.2.2.2.2.2.1)) (by
      rintro ⟨a1, a2, a3, a4, a5, a6, a7, a8, a9, a10, a11, a12, a13, a14, a15, a16, a17, a18, a19, a20, a21, a22, a23⟩ x hu hF
      dsimp only at hF
      obtain ⟨rfl, rfl, rfl, rfl, rfl, rfl, rfl, rfl, rfl, rfl⟩ := hF
      exact hp _ _ _ _ _ _ _ _ _ _ _ _ _ _ _ hu)
    refine hcl _ (fun b1 b2 b3 b4 b5 b6 b7 b8 b9 b10 b11 b12 b13 b14 b15 hB => ?_)
    refine br_n (z_neg hr (by decide)) (k_push hf hc ?_)
    obtain ⟨h', hh', htop⟩ := zHs_p hf hc (Nat.le_add_right tb 6000) hh hR hRf (by omega)
    exact hK _ _ (Or.inr ⟨r, B, _, h', rfl, hg.1, hg.2, by split <;> omega, htop, by omega, hB, ⟨(f + 1) % 9, by omega, by split <;> omega, rfl, rfl, hh'⟩, hZ, hP, hO⟩)
