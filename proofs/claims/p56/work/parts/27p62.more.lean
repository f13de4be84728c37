/-! predictions -/
theorem k_times {n : Nat} (hn : n ≤ 12) {cl : Nat → Int32} {a : Nat → Nat} (hc : zL cl n a) {i : Nat} (hi : i < n) {post : Int32 → Prop} (h : post (nI (a i))) : wpX4_timesCleared (nI i) cl (nI n) post := by
  unfold wpX4_timesCleared
  refine k_hasI hn hi (br_f (by decide) ⟨vp_in_nI (by omega) (by omega), ?_⟩)
  rw [nI_clamp (by omega), zg hc i hi]
  exact h
theorem zkk_0 {A : Nat → Nat} {i : Nat} : ∀ k : Nat, (∀ y : Nat, y < k → zk1 (zit A y) i (A 2) = 0) → zkk A i k = 0
  | 0, _ => rfl
  | k + 1, h => by
    have a := zkk_0 k (fun y hy => h y (by omega))
    have b := h k (by omega)
    show zkk A i k + zk1 (zit A k) i (A 2) = 0
    omega
theorem k_foretell {A : Nat → Nat} {t_time t_store t_rate t_force t_cleared t_ploughed t_failed t_complained : Int32} {s_lower s_higher s_kind s_size s_snow s_saltEnd s_complained s_clearings : Nat → Int32} {s_count : Int32} {q_place q_target q_minutesLeft q_waiting q_orders : Nat → Int32} {q_count : Int32} {t_timef t_storef t_ratef t_forcef t_clearedf t_ploughedf t_failedf t_complainedf : Int32} {s_lowerf s_higherf s_kindf s_sizef s_snowf s_saltEndf s_complainedf s_clearingsf : Nat → Int32} {s_countf : Int32} {q_placef q_targetf q_minutesLeftf q_waitingf q_ordersf : Nat → Int32} {q_countf : Int32} (hT : zTc A t_time t_store t_rate t_force t_cleared t_ploughed t_failed t_complained s_lower s_higher s_kind s_size s_snow s_saltEnd s_complained s_clearings s_count q_place q_target q_minutesLeft q_waiting q_orders q_count) (h29 : A 0 + 600 < 2 ^ 29) {i : Nat} (hi : i < A 1) {w_reach w_settled : Nat → Int32} {post : Int32 → (Nat → Int32) → (Nat → Int32) → Int32 → Int32 → Int32 → Int32 → Int32 → Int32 → Int32 → Int32 → (Nat → Int32) → (Nat → Int32) → (Nat → Int32) → (Nat → Int32) → (Nat → Int32) → (Nat → Int32) → (Nat → Int32) → (Nat → Int32) → Int32 → (Nat → Int32) → (Nat → Int32) → (Nat → Int32) → (Nat → Int32) → (Nat → Int32) → Int32 → Prop}
    (h1 : ∀ x : Nat, x < 600 → (∀ y : Nat, y < x → zk1 (zit A y) i (A 2) = 0) → 0 < zk1 (zit A x) i (A 2) → ∀ (r s : Nat → Int32) u1 u2 u3 u4 u5 u6 u7 u8 u9 u10 u11 u12 u13 u14 u15 u16 u17 u18 u19 u20 u21 u22 u23, post (nI (x + 1)) r s u1 u2 u3 u4 u5 u6 u7 u8 u9 u10 u11 u12 u13 u14 u15 u16 u17 u18 u19 u20 u21 u22 u23)
    (h0 : (∀ y : Nat, y < 600 → zk1 (zit A y) i (A 2) = 0) → ∀ (r s : Nat → Int32) u1 u2 u3 u4 u5 u6 u7 u8 u9 u10 u11 u12 u13 u14 u15 u16 u17 u18 u19 u20 u21 u22 u23, post (-1) r s u1 u2 u3 u4 u5 u6 u7 u8 u9 u10 u11 u12 u13 u14 u15 u16 u17 u18 u19 u20 u21 u22 u23) : wpX6_foretellClearing (nI i) w_reach w_settled t_time t_store t_rate t_force t_cleared t_ploughed t_failed t_complained s_lower s_higher s_kind s_size s_snow s_saltEnd s_complained s_clearings s_count q_place q_target q_minutesLeft q_waiting q_orders q_count t_timef t_storef t_ratef t_forcef t_clearedf t_ploughedf t_failedf t_complainedf s_lowerf s_higherf s_kindf s_sizef s_snowf s_saltEndf s_complainedf s_clearingsf s_countf q_placef q_targetf q_minutesLeftf q_waitingf q_ordersf q_countf post := by
  have hI := hT.1
  have hA := hI.1
  obtain ⟨C, hC, hC4⟩ := hT.2.2.2.2.2
  unfold wpX6_foretellClearing
  refine z_copy hT (fun u1 u2 u3 u4 u5 u6 u7 u8 u9 u10 u11 u12 u13 u14 u15 u16 u17 u18 u19 u20 u21 u22 u23 hu hcl => ?_)
  have e17 : u17 = nI (A 1) := hu.2.2.1.1
  subst e17
  refine k_times hA.1 (hcl C hC) hi ?_
  refine pk_loop (σ := (Nat → Int32) × (Nat → Int32) × Int32 × Int32 × Int32 × Int32 × Int32 × (Nat → Int32) × (Nat → Int32) × (Nat → Int32) × (Nat → Int32) × (Nat → Int32) × (Nat → Int32) × (Nat → Int32) × (Nat → Int32)) (fun q x v => wpX6_foretellClearing_L25 (nI i) t_time t_store t_rate t_force t_cleared t_ploughed t_failed t_complained s_lower s_higher s_kind s_size s_snow s_saltEnd s_complained s_clearings s_count q_place q_target q_minutesLeft q_waiting q_orders q_count (nI (C i)) u2 u3 u4 u9 u10 u11 u12 u14 (nI (A 1)) u23 post q (nI (x + 1)) v.1 v.2.1 v.2.2.1 v.2.2.2.1 v.2.2.2.2.1 v.2.2.2.2.2.1 v.2.2.2.2.2.2.1 v.2.2.2.2.2.2.2.1 v.2.2.2.2.2.2.2.2.1 v.2.2.2.2.2.2.2.2.2.1 v.2.2.2.2.2.2.2.2.2.2.1 v.2.2.2.2.2.2.2.2.2.2.2.1 v.2.2.2.2.2.2.2.2.2.2.2.2.1 v.2.2.2.2.2.2.2.2.2.2.2.2.2.1 v.2.2.2.2.2.2.2.2.2.2.2.2.2.2) (fun x v => zTc (zit A x) v.2.2.1 u2 u3 u4 v.2.2.2.1 v.2.2.2.2.1 v.2.2.2.2.2.1 v.2.2.2.2.2.2.1 u9 u10 u11 u12 v.2.2.2.2.2.2.2.1 u14 v.2.2.2.2.2.2.2.2.1 v.2.2.2.2.2.2.2.2.2.1 (nI (A 1)) v.2.2.2.2.2.2.2.2.2.2.1 v.2.2.2.2.2.2.2.2.2.2.2.1 v.2.2.2.2.2.2.2.2.2.2.2.2.1 v.2.2.2.2.2.2.2.2.2.2.2.2.2.1 v.2.2.2.2.2.2.2.2.2.2.2.2.2.2 u23 ∧ zL v.2.2.2.2.2.2.2.2.2.1 (A 1) (fun j => C j + zkk A j x) ∧ ∀ y : Nat, y < x → zk1 (zit A y) i (A 2) = 0) 600 0 (w_reach, w_settled, u1, u5, u6, u7, u8, u13, u15, u16, u18, u19, u20, u21, u22) (Nat.zero_le _) ⟨hu, hcl C hC, fun y hy => absurd hy (Nat.not_lt_zero y)⟩ ?_ ?_
  · rintro q ⟨r, s, t, c, p, f, tt, sn, co, cl, pl, tg, mm, w, o⟩ ⟨hu, hcl, hz⟩
    exact br_t (nI_lt (a := 600) (by omega) (by omega)) (h0 hz _ _ _ _ _ _ _ _ _ _ _ _ _ _ _ _ _ _ _ _ _ _ _ _ _)
  · rintro q x ⟨r, s, t, c, p, f, tt, sn, co, cl, pl, tg, mm, w, o⟩ hx ⟨hu, hcl, hz⟩ ih
    dsimp only at hu hcl hz
    obtain ⟨hIx, hsx, h0x⟩ := zit_I hI x
    have e1 := hsx.1 1 (by omega) (by omega)
    have e2 := hsx.1 2 (by omega) (by omega)
    show wpX6_foretellClearing_L25 (nI i) t_time t_store t_rate t_force t_cleared t_ploughed t_failed t_complained s_lower s_higher s_kind s_size s_snow s_saltEnd s_complained s_clearings s_count q_place q_target q_minutesLeft q_waiting q_orders q_count (nI (C i)) u2 u3 u4 u9 u10 u11 u12 u14 (nI (A 1)) u23 post (q + 1) (nI (x + 1)) r s t c p f tt sn co cl pl tg mm w o
    refine br_f (nI_nlt (a := 600) (by omega) (by omega)) ?_
    refine k_wait (n := 1) hu (by omega) (by omega) (by omega) (fun t' c' p' f' tt' r' s' sn' co' cl' pl' tg' mm' w' o' hu' hcl' => ?_)
    have hcx : zL cl' (A 1) (fun j => C j + zkk A j (x + 1)) := by
      have q9 := hcl' (fun j => C j + zkk A j x) (by rw [e1]; exact hcl)
      rw [e1] at q9
      intro j hj
      rw [zg q9 j hj]
      show nI (C j + zkk A j x + (0 + zk1 (zit A x) j (zit A x 2))) = nI (C j + (zkk A j x + zk1 (zit A x) j (A 2)))
      rw [e2, Nat.zero_add, Nat.add_assoc]
    refine k_times hA.1 hcx hi ?_
    have ez : zkk A i (x + 1) = zk1 (zit A x) i (A 2) := by
      show zkk A i x + zk1 (zit A x) i (A 2) = _
      rw [zkk_0 x hz, Nat.zero_add]
    have c4 := hC4 i hi
    have k4 := zk1_le (zit A x) i (A 2)
    try dsimp only
    rw [ez, nI_1]
    by_cases e : zk1 (zit A x) i (A 2) = 0
    · refine br_t (nI_le (by omega) (by omega)) (ih (r', s', t', c', p', f', tt', sn', co', cl', pl', tg', mm', w', o') ⟨hu', hcx, fun y hy => ?_⟩)
      by_cases ey : y = x
      · rw [ey]; exact e
      · exact hz y (by omega)
    · exact br_f (nI_ge (by omega) (by omega)) (h1 x hx hz (by omega) _ _ _ _ _ _ _ _ _ _ _ _ _ _ _ _ _ _ _ _ _ _ _ _ _)
theorem m_back {A : Nat → Nat} {m tried : Nat → Int32} (hM : zM A tried) {post : (Nat → Int32) → Prop} (h : ∀ m', zM A m' → post m') : wpX7_copies 0 0 130 tried 130 m post := by
  refine m_copies (a := 0) (b := 0) (by omega) (by omega) (by omega) (by omega) rfl rfl (fun f h1 _ => h f (fun k hk => ?_))
  have := h1 k hk
  rw [Nat.zero_add] at this
  rw [this, hM k hk]
theorem m_until {A : Nat → Nat} (hI : zI A) (h29 : A 0 + 600 < 2 ^ 29) {m tried far drift : Nat → Int32} (hM : zM A m) {i : Nat} (hi : i < A 1) {thr : Int32} {post : Int32 → Int32 → (Nat → Int32) → (Nat → Int32) → (Nat → Int32) → (Nat → Int32) → Prop}
    (h1 : ∀ x : Nat, x < 600 → (∀ y : Nat, y < x → zk1 (zit A y) i (A 2) = 0) → 0 < zk1 (zit A x) i (A 2) → ∀ m' t f d, zM A m' → post (nI (x + 1)) 0 m' t f d)
    (h0 : (∀ y : Nat, y < 600 → zk1 (zit A y) i (A 2) = 0) → ∀ m' t f d, zM A m' → post 0 2 m' t f d) : wpX7_minutesUntilCleared (nI i) thr m tried far drift post := by
  have hA := hI.1
  unfold wpX7_minutesUntilCleared
  refine m_isSI hM hA.1 hi (br_n (by decide) ?_)
  unfold wpX7_minutesUntilCleared_L14
  refine m_no (br_t rfl (m_back hM (fun tr htr => ?_)))
  refine pk_loop (fun q x (v : (Nat → Int32) × (Nat → Int32) × (Nat → Int32)) => wpX7_minutesUntilCleared_L38 (nI i) 0 tr post q (nI (x + 1)) v.1 v.2.1 v.2.2) (fun x v => zM (zit A x) v.1 ∧ ∀ y : Nat, y < x → zk1 (zit A y) i (A 2) = 0) 600 0 (m, far, drift) (Nat.zero_le _) ⟨hM, fun y hy => absurd hy (Nat.not_lt_zero y)⟩ ?_ ?_
  · rintro q ⟨m', f, d⟩ ⟨-, hz⟩
    refine br_t (nI_lt (a := 600) (by omega) (by omega)) ?_
    unfold wpX7_minutesUntilCleared_L59
    exact m_back htr (fun m2 h2 => br_f (nI_ge (a := 600) (by omega) (by omega)) (m_yes (br_f (by decide) (h0 hz _ _ _ _ h2))))
  · rintro q x ⟨m', f, d⟩ hx ⟨hm', hz⟩ ih
    dsimp only at hm' hz
    obtain ⟨hIx, hsx, h0x⟩ := zit_I hI x
    have e1 := hsx.1 1 (by omega) (by omega)
    have e2 := hsx.1 2 (by omega) (by omega)
    show wpX7_minutesUntilCleared_L38 (nI i) 0 tr post (q + 1) (nI (x + 1)) m' f d
    refine br_f (nI_nlt (a := 600) (by omega) (by omega)) (m_minute hIx (by omega) hm' (w := i) (by omega) (fun m2 f2 d2 h2 => ?_))
    rw [e2, nI_1]
    by_cases e : 0 < zk1 (zit A x) i (A 2)
    · rw [if_pos e]
      refine br_n (by decide) ?_
      unfold wpX7_minutesUntilCleared_L59
      exact m_back htr (fun m3 h3 => br_t (nI_le (b := 600) (by omega) (by omega)) (m_no (br_t rfl (h1 x hx hz e _ _ _ _ h3))))
    · rw [if_neg e]
      refine br_m rfl (ih (m2, f2, d2) ⟨h2, fun y hy => ?_⟩)
      by_cases ey : y = x
      · rw [ey]; omega
      · exact hz y (by omega)
theorem m_after {A : Nat → Nat} (hI : zI A) {n : Nat} (hn : n ≤ 600) (h29 : A 0 + n < 2 ^ 29) {m tried far drift : Nat → Int32} (hM : zM A m) {i : Nat} (hi : i < A 1) {thr ans : Int32} {post : Int32 → Int32 → Int32 → (Nat → Int32) → (Nat → Int32) → (Nat → Int32) → (Nat → Int32) → Prop}
    (h : ∀ a m' t f d, zM A m' → post (nI (zit A n (14 + 7 * i))) 0 a m' t f d) : wpX7_depthAfter (nI i) (nI n) thr ans m tried far drift post := by
  have hA := hI.1
  unfold wpX7_depthAfter
  refine m_isSI hM hA.1 hi (br_n (by decide) ?_)
  unfold wpX7_depthAfter_L14
  refine m_no (br_m rfl (m_inI (a := 0) (b := 600) (by omega) (by omega) (Nat.zero_le _) hn (br_n (by decide) ?_)))
  unfold wpX7_depthAfter_L38
  refine m_no (br_t rfl (m_back hM (fun tr htr => ?_)))
  refine pk_loop (fun q x (v : Int32 × (Nat → Int32) × (Nat → Int32) × (Nat → Int32)) => wpX7_depthAfter_L62 (nI i) (nI n) 0 tr post q (nI x) v.1 v.2.1 v.2.2.1 v.2.2.2) (fun x v => zM (zit A x) v.2.1) n 0 (ans, m, far, drift) (Nat.zero_le _) hM ?_ ?_
  · rintro q ⟨a, m', f, d⟩ hm'
    dsimp only at hm'
    refine br_t (nI_le (Nat.le_refl _) (by omega)) (m_of hm' i 4 rfl (by omega) (m_back htr (fun m2 h2 => ?_)))
    rw [show 10 + 7 * i + 4 = 14 + 7 * i by omega]
    exact h _ _ _ _ _ h2
  · rintro q x ⟨a, m', f, d⟩ hx hm' ih
    dsimp only at hm'
    obtain ⟨hIx, hsx, h0x⟩ := zit_I hI x
    show wpX7_depthAfter_L62 (nI i) (nI n) 0 tr post (q + 1) (nI x) a m' f d
    refine br_f (nI_ge hx (by omega)) (m_minute hIx (by omega) hm' (w := i) (by omega) (fun m2 f2 d2 h2 => ?_))
    rw [nI_1]
    split
    · exact br_f (by decide) (ih (1, m2, f2, d2) h2)
    · exact br_t rfl (ih (0, m2, f2, d2) h2)
/-! consistency -/
theorem k_agree {A : Nat → Nat} (hI : zI A) {s_lower s_higher s_size : Nat → Int32} (hl : zL s_lower (A 1) (fun i => A (10 + 7 * i))) (hh : zL s_higher (A 1) (fun i => A (11 + 7 * i))) (hz : zL s_size (A 1) (fun i => A (13 + 7 * i))) {w_reach w_settled w_table : Nat → Int32} {post : Int32 → (Nat → Int32) → (Nat → Int32) → (Nat → Int32) → Prop} (h : ∀ r s t, post 1 r s t) : wpX6_distancesAgree w_reach w_settled w_table s_lower s_higher s_size (nI (A 1)) post := by
  unfold wpX6_distancesAgree
  refine k_all hI hl hh hz (fun tb htb => ?_)
  refine pk_loop (fun n i (v : (Nat → Int32) × (Nat → Int32)) => wpX6_distancesAgree_L16 s_lower s_higher s_size (nI (A 1)) tb post n (nI i) v.1 v.2) (fun _ _ => True) 8 0 (w_reach, w_settled) (Nat.zero_le _) trivial ?_ ?_
  · rintro n ⟨r, s⟩ -
    exact br_t (nI_le (b := 8) (Nat.le_refl _) (by omega)) (h _ _ _)
  · rintro n i ⟨r, s⟩ hi - ih
    show wpX6_distancesAgree_L16 s_lower s_higher s_size (nI (A 1)) tb post (n + 1) (nI i) r s
    refine br_f (nI_ge (b := 8) hi (by omega)) (k_meas hI hl hh hz hi (fun f g hf => ?_))
    refine pk_loop (fun k j (_ : Unit) => wpX6_distancesAgree_L39 tb s_lower s_higher s_size (nI (A 1)) (nI i) f g (fun v1 v2 v3 => wpX6_distancesAgree_L16 s_lower s_higher s_size (nI (A 1)) tb post n v1 v2 v3) post k (nI j)) (fun _ _ => True) 8 0 () (Nat.zero_le _) trivial ?_ ?_
    · rintro k _ -
      refine br_t (nI_le (b := 8) (Nat.le_refl _) (by omega)) ?_
      rw [nI_1]
      exact ih (f, g) trivial
    · rintro k j _ hj - ih2
      refine br_f (nI_ge (b := 8) hj (by omega)) (k_reach hf hj (k_betw htb hi hj (br_t rfl ?_)))
      rw [nI_1]
      exact ih2 () trivial
theorem m_cons {A : Nat → Nat} (hI : zI A) {m : Nat → Int32} (hM : zM A m) {thr : Int32} {post : Int32 → Int32 → Prop} (h1 : nI (zsum (fun i => A (16 + 7 * i)) (A 1)) = nI (A 9) → post 1 0) (h0 : ¬ nI (zsum (fun i => A (16 + 7 * i)) (A 1)) = nI (A 9) → post 0 0) : wpX7_isConsistent thr m post := by
  have hA := hI.1
  have m1 : m (1 : Int32).toNatClampNeg = nI (A 1) := hM 1 (by omega)
  have m9 : m (9 : Int32).toNatClampNeg = nI (A 9) := hM 9 (by omega)
  unfold wpX7_isConsistent
  refine pk_loop (fun n i (v : Int32 × Int32) => wpX7_isConsistent_L11 m 0 post n v.1 v.2 (nI i)) (fun i v => v.1 = nI (zsum (fun i => A (16 + 7 * i)) i) ∧ v.2 = 1) (A 1) 0 (0, 1) (Nat.zero_le _) ⟨rfl, rfl⟩ ?_ ?_
  · rintro n ⟨x, b⟩ ⟨hx, hb⟩
    dsimp only at hx hb
    subst hx hb
    show wpX7_isConsistent_L11 m 0 post (n + 1) _ 1 (nI (A 1))
    refine ⟨by unfold vp_in; decide, ?_⟩
    rw [m1]
    refine br_t (nI_le (Nat.le_refl _) (by omega)) (br_f (by decide) ⟨by unfold vp_in; decide, ?_⟩)
    rw [m9]
    by_cases e : nI (zsum (fun i => A (16 + 7 * i)) (A 1)) = nI (A 9)
    · exact br_m e (h1 e)
    · exact br_n e (h0 e)
  · rintro n i ⟨x, b⟩ hi ⟨hx, hb⟩ ih
    dsimp only at hx hb
    subst hx hb
    have g := hI.2.1 i hi
    show wpX7_isConsistent_L11 m 0 post (n + 1) _ 1 (nI i)
    refine ⟨by unfold vp_in; decide, ?_⟩
    rw [m1]
    refine br_f (nI_ge hi (by omega)) (m_of hM i 6 rfl (by omega) (m_of hM i 4 rfl (by omega) ?_))
    rw [show 10 + 7 * i + 6 = 16 + 7 * i by omega, show 10 + 7 * i + 4 = 14 + 7 * i by omega, nI_1, nI_add]
    exact m_inI (a := 0) (b := 200) (by omega) (by omega) (Nat.zero_le _) (by omega) (ih (_, _) ⟨rfl, show (1 : Int32) &&& 1 = 1 by decide⟩)
