/-! predictions -/
theorem k_times {n : Nat} (hn : n ≤ 12) {cl : Nat → Int32} {a : Nat → Nat} (hc : zL cl n a) {i : Nat} (hi : i < n) {post : Int32 → Prop} (h : post (nI (a i))) : wpX4_timesCleared (nI i) cl (nI n) post := by
  unfold wpX4_timesCleared
  refine k_hasI hn hi (br_f (by decide) ⟨vp_in_nI (by omega) (by omega), ?_⟩)
  rw [nI_clamp (by omega), zg hc i hi]
  exact h
theorem zkk_0 {A : Nat → Nat} {i : Nat} : ∀ k : Nat, (∀ y : Nat, y < k → zk1 (zit A y) i (A 2) = 0) → zkk A i k = 0
  | 0, _ => rfl
  | k + 1, h => by
    have a := zkk_0 k (fun y hy => h y (by omega))
    have b := h k (by omega)
    show zkk A i k + zk1 (zit A k) i (A 2) = 0
    omega
theorem k_foretell {A : Nat → Nat} {t_time t_store t_rate t_force t_cleared t_ploughed t_failed t_complained : Int32} {s_lower s_higher s_kind s_size s_snow s_saltEnd s_complained s_clearings : Nat → Int32} {s_count : Int32} {q_place q_target q_minutesLeft q_waiting q_orders : Nat → Int32} {q_count : Int32} {t_timef t_storef t_ratef t_forcef t_clearedf t_ploughedf t_failedf t_complainedf : Int32} {s_lowerf s_higherf s_kindf s_sizef s_snowf s_saltEndf s_complainedf s_clearingsf : Nat → Int32} {s_countf : Int32} {q_placef q_targetf q_minutesLeftf q_waitingf q_ordersf : Nat → Int32} {q_countf : Int32} (hT : zTc A t_time t_store t_rate t_force t_cleared t_ploughed t_failed t_complained s_lower s_higher s_kind s_size s_snow s_saltEnd s_complained s_clearings s_count q_place q_target q_minutesLeft q_waiting q_orders q_count) (h29 : A 0 + 600 < 2 ^ 29) {i : Nat} (hi : i < A 1) {w_reach w_settled : Nat → Int32} {post : Int32 → (Nat → Int32) → (Nat → Int32) → Int32 → Int32 → Int32 → Int32 → Int32 → Int32 → Int32 → Int32 → (Nat → Int32) → (Nat → Int32) → (Nat → Int32) → (Nat → Int32) → (Nat → Int32) → (Nat → Int32) → (Nat → Int32) → (Nat → Int32) → Int32 → (Nat → Int32) → (Nat → Int32) → (Nat → Int32) → (Nat → Int32) → (Nat → Int32) → Int32 → Prop}
    (h1 : ∀ x : Nat, x < 600 → (∀ y : Nat, y < x → zk1 (zit A y) i (A 2) = 0) → 0 < zk1 (zit A x) i (A 2) → ∀ (r s : Nat → Int32) u1 u2 u3 u4 u5 u6 u7 u8 u9 u10 u11 u12 u13 u14 u15 u16 u17 u18 u19 u20 u21 u22 u23, post (nI (x + 1)) r s u1 u2 u3 u4 u5 u6 u7 u8 u9 u10 u11 u12 u13 u14 u15 u16 u17 u18 u19 u20 u21 u22 u23)
    (h0 : (∀ y : Nat, y < 600 → zk1 (zit A y) i (A 2) = 0) → ∀ (r s : Nat → Int32) u1 u2 u3 u4 u5 u6 u7 u8 u9 u10 u11 u12 u13 u14 u15 u16 u17 u18 u19 u20 u21 u22 u23, post (-1) r s u1 u2 u3 u4 u5 u6 u7 u8 u9 u10 u11 u12 u13 u14 u15 u16 u17 u18 u19 u20 u21 u22 u23) : wpX6_foretellClearing (nI i) w_reach w_settled t_time t_store t_rate t_force t_cleared t_ploughed t_failed t_complained s_lower s_higher s_kind s_size s_snow s_saltEnd s_complained s_clearings s_count q_place q_target q_minutesLeft q_waiting q_orders q_count t_timef t_storef t_ratef t_forcef t_clearedf t_ploughedf t_failedf t_complainedf s_lowerf s_higherf s_kindf s_sizef s_snowf s_saltEndf s_complainedf s_clearingsf s_countf q_placef q_targetf q_minutesLeftf q_waitingf q_ordersf q_countf post := by
  have hI := hT.1
  have hA := hI.1
  obtain ⟨C, hC, hC4⟩ := hT.2.2.2.2.2
  unfold wpX6_foretellClearing
  refine z_copy hT (fun u1 u2 u3 u4 u5 u6 u7 u8 u9 u10 u11 u12 u13 u14 u15 u16 u17 u18 u19 u20 u21 u22 u23 hu hcl => ?_)
  have e17 : u17 = nI (A 1) := hu.2.2.1.1
  subst e17
  refine k_times hA.1 (hcl C hC) hi ?_
  refine pk_loop (σ := (Nat → Int32) × (Nat → Int32) × Int32 × Int32 × Int32 × Int32 × Int32 × (Nat → Int32) × (Nat → Int32) × (Nat → Int32) × (Nat → Int32) × (Nat → Int32) × (Nat → Int32) × (Nat → Int32) × (Nat → Int32)) (fun q x v => wpX6_foretellClearing_L25 (nI i) t_time t_store t_rate t_force t_cleared t_ploughed t_failed t_complained s_lower s_higher s_kind s_size s_snow s_saltEnd s_complained s_clearings s_count q_place q_target q_minutesLeft q_waiting q_orders q_count (nI (C i)) u2 u3 u4 u9 u10 u11 u12 u14 (nI (A 1)) u23 post q (nI (x + 1)) v.1 v.2.1 v.2.2.1 v.2.2.2.1 v.2.2.2.2.1 v.2.2.2.2.2.1 v.2.2.2.2.2.2.1 v.2.2.2.2.2.2.2.1 v.2.2.2.2.2.2.2.2.1 v.2.2.2.2.2.2.2.2.2.1 v.2.2.2.2.2.2.2.2.2.2.1 v.2.2.2.2.2.2.2.2.2.2.2.1 v.2.2.2.2.2.2.2.2.2.2.2.2.1 v.2.2.2.2.2.2.2.2.2.2.2.2.2.1 v.2.2.2.2.2.2.2.2.2.2.2.2.2.2) (fun x v => zTc (zit A x) v.2.2.1 u2 u3 u4 v.2.2.2.1 v.2.2.2.2.1 v.2.2.2.2.2.1 v.2.2.2.2.2.2.1 u9 u10 u11 u12 v.2.2.2.2.2.2.2.1 u14 v.2.2.2.2.2.2.2.2.1 v.2.2.2.2.2.2.2.2.2.1 (nI (A 1)) v.2.2.2.2.2.2.2.2.2.2.1 v.2.2.2.2.2.2.2.2.2.2.2.1 v.2.2.2.2.2.2.2.2.2.2.2.2.1 v.2.2.2.2.2.2.2.2.2.2.2.2.2.1 v.2.2.2.2.2.2.2.2.2.2.2.2.2.2 u23 ∧ zL v.2.2.2.2.2.2.2.2.2.1 (A 1) (fun j => C j + zkk A j x) ∧ ∀ y : Nat, y < x → zk1 (zit A y) i (A 2) = 0) 600 0 (w_reach, w_settled, u1, u5, u6, u7, u8, u13, u15, u16, u18, u19, u20, u21, u22) (Nat.zero_le _) ⟨hu, hcl C hC, fun y hy => absurd hy (Nat.not_lt_zero y)⟩ ?_ ?_
  · rintro q ⟨r, s, t, c, p, f, tt, sn, co, cl, pl, tg, mm, w, o⟩ ⟨hu, hcl, hz⟩
    exact br_t (nI_lt (a := 600) (by omega) (by omega)) (h0 hz _ _ _ _ _ _ _ _ _ _ _ _ _ _ _ _ _ _ _ _ _ _ _ _ _)
  · rintro q x ⟨r, s, t, c, p, f, tt, sn, co, cl, pl, tg, mm, w, o⟩ hx ⟨hu, hcl, hz⟩ ih
    dsimp only at hu hcl hz
    obtain ⟨hIx, hsx, h0x⟩ := zit_I hI x
    have e1 := hsx.1 1 (by omega) (by omega)
    have e2 := hsx.1 2 (by omega) (by omega)
    show wpX6_foretellClearing_L25 (nI i) t_time t_store t_rate t_force t_cleared t_ploughed t_failed t_complained s_lower s_higher s_kind s_size s_snow s_saltEnd s_complained s_clearings s_count q_place q_target q_minutesLeft q_waiting q_orders q_count (nI (C i)) u2 u3 u4 u9 u10 u11 u12 u14 (nI (A 1)) u23 post (q + 1) (nI (x + 1)) r s t c p f tt sn co cl pl tg mm w o
    refine br_f (nI_nlt (a := 600) (by omega) (by omega)) ?_
    refine k_wait (n := 1) hu (by omega) (by omega) (by omega) (fun t' c' p' f' tt' r' s' sn' co' cl' pl' tg' mm' w' o' hu' hcl' => ?_)
    have hcx : zL cl' (A 1) (fun j => C j + zkk A j (x + 1)) := by
      have q9 := hcl' (fun j => C j + zkk A j x) (by rw [e1]; exact hcl)
      rw [e1] at q9
      intro j hj
      rw [zg q9 j hj]
      show nI (C j + zkk A j x + (0 + zk1 (zit A x) j (zit A x 2))) = nI (C j + (zkk A j x + zk1 (zit A x) j (A 2)))
      rw [e2, Nat.zero_add, Nat.add_assoc]
    refine k_times hA.1 hcx hi ?_
    have ez : zkk A i (x + 1) = zk1 (zit A x) i (A 2) := by
      show zkk A i x + zk1 (zit A x) i (A 2) = _
      rw [zkk_0 x hz, Nat.zero_add]
    have c4 := hC4 i hi
    have k4 := zk1_le (zit A x) i (A 2)
    try dsimp only
    rw [ez, nI_1]
    by_cases e : zk1 (zit A x) i (A 2) = 0
    · refine br_t (nI_le (by omega) (by omega)) (ih (r', s', t', c', p', f', tt', sn', co', cl', pl', tg', mm', w', o') ⟨hu', hcx, fun y hy => ?_⟩)
      by_cases ey : y = x
      · rw [ey]; exact e
      · exact hz y (by omega)
    · exact br_f (nI_ge (by omega) (by omega)) (h1 x hx hz (by omega) _ _ _ _ _ _ _ _ _ _ _ _ _ _ _ _ _ _ _ _ _ _ _ _ _)
theorem m_back {A : Nat → Nat} {m tried : Nat → Int32} (hM : zM A tried) {post : (Nat → Int32) → Prop} (h : ∀ m', zM A m' → post m') : wpX7_copies 0 0 130 tried 130 m post := by
  refine m_copies (a := 0) (b := 0) (by omega) (by omega) (by omega) (by omega) rfl rfl (fun f h1 _ => h f (fun k hk => ?_))
  have := h1 k hk
  rw [Nat.zero_add] at this
  rw [this, hM k hk]
theorem m_until {A : Nat → Nat} (hI : zI A) (h29 : A 0 + 600 < 2 ^ 29) {m tried far drift : Nat → Int32} (hM : zM A m) {i : Nat} (hi : i < A 1) {thr : Int32} {post : Int32 → Int32 → (Nat → Int32) → (Nat → Int32) → (Nat → Int32) → (Nat → Int32) → Prop}
    (h1 : ∀ x : Nat, x < 600 → (∀ y : Nat, y < x → zk1 (zit A y) i (A 2) = 0) → 0 < zk1 (zit A x) i (A 2) → ∀ m' t f d, zM A m' → post (nI (x + 1)) 0 m' t f d)
    (h0 : (∀ y : Nat, y < 600 → zk1 (zit A y) i (A 2) = 0) → ∀ m' t f d, zM A m' → post 0 2 m' t f d) : wpX7_minutesUntilCleared (nI i) thr m tried far drift post := by
  have hA := hI.1
  unfold wpX7_minutesUntilCleared
  refine m_isSI hM hA.1 hi (br_n (by decide) ?_)
  unfold wpX7_minutesUntilCleared_L14
  refine m_no (br_t rfl (m_back hM (fun tr htr => ?_)))
  refine pk_loop (fun q x (v : (Nat → Int32) × (Nat → Int32) × (Nat → Int32)) => wpX7_minutesUntilCleared_L38 (nI i) 0 tr post q (nI (x + 1)) v.1 v.2.1 v.2.2) (fun x v => zM (zit A x) v.1 ∧ ∀ y : Nat, y < x → zk1 (zit A y) i (A 2) = 0) 600 0 (m, far, drift) (Nat.zero_le _) ⟨hM, fun y hy => absurd hy (Nat.not_lt_zero y)⟩ ?_ ?_
  · rintro q ⟨m', f, d⟩ ⟨-, hz⟩
    refine br_t (nI_lt (a := 600) (by omega) (by omega)) ?_
    unfold wpX7_minutesUntilCleared_L59
    exact m_back htr (fun m2 h2 => br_f (nI_ge (a := 600) (by omega) (by omega)) (m_yes (br_f (by decide) (h0 hz _ _ _ _ h2))))
  · rintro q x ⟨m', f, d⟩ hx ⟨hm', hz⟩ ih
    dsimp only at hm' hz
    obtain ⟨hIx, hsx, h0x⟩ := zit_I hI x
    have e1 := hsx.1 1 (by omega) (by omega)
    have e2 := hsx.1 2 (by omega) (by omega)
    show wpX7_minutesUntilCleared_L38 (nI i) 0 tr post (q + 1) (nI (x + 1)) m' f d
    refine br_f (nI_nlt (a := 600) (by omega) (by omega)) (m_minute hIx (by omega) hm' (w := i) (by omega) (fun m2 f2 d2 h2 => ?_))
    rw [e2, nI_1]
    by_cases e : 0 < zk1 (zit A x) i (A 2)
    · rw [if_pos e]
      refine br_n (by decide) ?_
      unfold wpX7_minutesUntilCleared_L59
      exact m_back htr (fun m3 h3 => br_t (nI_le (b := 600) (by omega) (by omega)) (m_no (br_t rfl (h1 x hx hz e _ _ _ _ h3))))
    · rw [if_neg e]
      refine br_m rfl (ih (m2, f2, d2) ⟨h2, fun y hy => ?_⟩)
      by_cases ey : y = x
      · rw [ey]; omega
      · exact hz y (by omega)
theorem m_after {A : Nat → Nat} (hI : zI A) {n : Nat} (hn : n ≤ 600) (h29 : A 0 + n < 2 ^ 29) {m tried far drift : Nat → Int32} (hM : zM A m) {i : Nat} (hi : i < A 1) {thr ans : Int32} {post : Int32 → Int32 → Int32 → (Nat → Int32) → (Nat → Int32) → (Nat → Int32) → (Nat → Int32) → Prop}
    (h : ∀ a m' t f d, zM A m' → post (nI (zit A n (14 + 7 * i))) 0 a m' t f d) : wpX7_depthAfter (nI i) (nI n) thr ans m tried far drift post := by
  have hA := hI.1
  unfold wpX7_depthAfter
  refine m_isSI hM hA.1 hi (br_n (by decide) ?_)
  unfold wpX7_depthAfter_L14
  refine m_no (br_m rfl (m_inI (a := 0) (b := 600) (by omega) (by omega) (Nat.zero_le _) hn (br_n (by decide) ?_)))
  unfold wpX7_depthAfter_L38
  refine m_no (br_t rfl (m_back hM (fun tr htr => ?_)))
  refine pk_loop (fun q x (v : Int32 × (Nat → Int32) × (Nat → Int32) × (Nat → Int32)) => wpX7_depthAfter_L62 (nI i) (nI n) 0 tr post q (nI x) v.1 v.2.1 v.2.2.1 v.2.2.2) (fun x v => zM (zit A x) v.2.1) n 0 (ans, m, far, drift) (Nat.zero_le _) hM ?_ ?_
  · rintro q ⟨a, m', f, d⟩ hm'
    dsimp only at hm'
    refine br_t (nI_le (Nat.le_refl _) (by omega)) (m_of hm' i 4 rfl (by omega) (m_back htr (fun m2 h2 => ?_)))
    rw [show 10 + 7 * i + 4 = 14 + 7 * i by omega]
    exact h _ _ _ _ _ h2
  · rintro q x ⟨a, m', f, d⟩ hx hm' ih
    dsimp only at hm'
    obtain ⟨hIx, hsx, h0x⟩ := zit_I hI x
    show wpX7_depthAfter_L62 (nI i) (nI n) 0 tr post (q + 1) (nI x) a m' f d
    refine br_f (nI_ge hx (by omega)) (m_minute hIx (by omega) hm' (w := i) (by omega) (fun m2 f2 d2 h2 => ?_))
    rw [nI_1]
    split
    · exact br_f (by decide) (ih (1, m2, f2, d2) h2)
    · exact br_t rfl (ih (0, m2, f2, d2) h2)
/-! consistency -/
theorem k_agree {A : Nat → Nat} (hI : zI A) {s_lower s_higher s_size : Nat → Int32} (hl : zL s_lower (A 1) (fun i => A (10 + 7 * i))) (hh : zL s_higher (A 1) (fun i => A (11 + 7 * i))) (hz : zL s_size (A 1) (fun i => A (13 + 7 * i))) {w_reach w_settled w_table : Nat → Int32} {post : Int32 → (Nat → Int32) → (Nat → Int32) → (Nat → Int32) → Prop} (h : ∀ r s t, post 1 r s t) : wpX6_distancesAgree w_reach w_settled w_table s_lower s_higher s_size (nI (A 1)) post := by
  unfold wpX6_distancesAgree
  refine k_all hI hl hh hz (fun tb htb => ?_)
  refine pk_loop (fun n i (v : (Nat → Int32) × (Nat → Int32)) => wpX6_distancesAgree_L16 s_lower s_higher s_size (nI (A 1)) tb post n (nI i) v.1 v.2) (fun _ _ => True) 8 0 (w_reach, w_settled) (Nat.zero_le _) trivial ?_ ?_
  · rintro n ⟨r, s⟩ -
    exact br_t (nI_le (b := 8) (Nat.le_refl _) (by omega)) (h _ _ _)
  · rintro n i ⟨r, s⟩ hi - ih
    show wpX6_distancesAgree_L16 s_lower s_higher s_size (nI (A 1)) tb post (n + 1) (nI i) r s
    refine br_f (nI_ge (b := 8) hi (by omega)) (k_meas hI hl hh hz hi (fun f g hf => ?_))
    refine pk_loop (fun k j (_ : Unit) => wpX6_distancesAgree_L39 tb s_lower s_higher s_size (nI (A 1)) (nI i) f g (fun v1 v2 v3 => wpX6_distancesAgree_L16 s_lower s_higher s_size (nI (A 1)) tb post n v1 v2 v3) post k (nI j)) (fun _ _ => True) 8 0 () (Nat.zero_le _) trivial ?_ ?_
    · rintro k _ -
      refine br_t (nI_le (b := 8) (Nat.le_refl _) (by omega)) ?_
      rw [nI_1]
      exact ih (f, g) trivial
    · rintro k j _ hj - ih2
      refine br_f (nI_ge (b := 8) hj (by omega)) (k_reach hf hj (k_betw htb hi hj (br_t rfl ?_)))
      rw [nI_1]
      exact ih2 () trivial
theorem m_cons {A : Nat → Nat} (hI : zI A) {m : Nat → Int32} (hM : zM A m) {thr : Int32} {post : Int32 → Int32 → Prop} (h1 : nI (zsum (fun i => A (16 + 7 * i)) (A 1)) = nI (A 9) → post 1 0) (h0 : ¬ nI (zsum (fun i => A (16 + 7 * i)) (A 1)) = nI (A 9) → post 0 0) : wpX7_isConsistent thr m post := by
  have hA := hI.1
  have m1 : m (1 : Int32).toNatClampNeg = nI (A 1) := hM 1 (by omega)
  have m9 : m (9 : Int32).toNatClampNeg = nI (A 9) := hM 9 (by omega)
  unfold wpX7_isConsistent
  refine pk_loop (fun n i (v : Int32 × Int32) => wpX7_isConsistent_L11 m 0 post n v.1 v.2 (nI i)) (fun i v => v.1 = nI (zsum (fun i => A (16 + 7 * i)) i) ∧ v.2 = 1) (A 1) 0 (0, 1) (Nat.zero_le _) ⟨rfl, rfl⟩ ?_ ?_
  · rintro n ⟨x, b⟩ ⟨hx, hb⟩
    dsimp only at hx hb
    subst hx hb
    show wpX7_isConsistent_L11 m 0 post (n + 1) _ 1 (nI (A 1))
    refine ⟨by unfold vp_in; decide, ?_⟩
    rw [m1]
    refine br_t (nI_le (Nat.le_refl _) (by omega)) (br_f (by decide) ⟨by unfold vp_in; decide, ?_⟩)
    rw [m9]
    by_cases e : nI (zsum (fun i => A (16 + 7 * i)) (A 1)) = nI (A 9)
    · exact br_m e (h1 e)
    · exact br_n e (h0 e)
  · rintro n i ⟨x, b⟩ hi ⟨hx, hb⟩ ih
    dsimp only at hx hb
    subst hx hb
    have g := hI.2.1 i hi
    show wpX7_isConsistent_L11 m 0 post (n + 1) _ 1 (nI i)
    refine ⟨by unfold vp_in; decide, ?_⟩
    rw [m1]
    refine br_f (nI_ge hi (by omega)) (m_of hM i 6 rfl (by omega) (m_of hM i 4 rfl (by omega) ?_))
    rw [show 10 + 7 * i + 6 = 16 + 7 * i by omega, show 10 + 7 * i + 4 = 14 + 7 * i by omega, nI_1, nI_add]
    exact m_inI (a := 0) (b := 200) (by omega) (by omega) (Nat.zero_le _) (by omega) (ih (_, _) ⟨rfl, show (1 : Int32) &&& 1 = 1 by decide⟩)
theorem pc30 {tb : Nat} (htb : tb + 36000 < 2 ^ 29) {v1 : Int32} {w_reach : Nat → Int32} {w_settled : Nat → Int32} {t_time : Int32} {t_store : Int32} {t_rate : Int32} {t_force : Int32} {t_cleared : Int32} {t_ploughed : Int32} {t_failed : Int32} {t_complained : Int32} {s_lower : Nat → Int32} {s_higher : Nat → Int32} {s_kind : Nat → Int32} {s_size : Nat → Int32} {s_snow : Nat → Int32} {s_saltEnd : Nat → Int32} {s_complained : Nat → Int32} {s_clearings : Nat → Int32} {s_count : Int32} {q_place : Nat → Int32} {q_target : Nat → Int32} {q_minutesLeft : Nat → Int32} {q_waiting : Nat → Int32} {q_orders : Nat → Int32} {q_count : Int32} {t_timef : Int32} {t_storef : Int32} {t_ratef : Int32} {t_forcef : Int32} {t_clearedf : Int32} {t_ploughedf : Int32} {t_failedf : Int32} {t_complainedf : Int32} {s_lowerf : Nat → Int32} {s_higherf : Nat → Int32} {s_kindf : Nat → Int32} {s_sizef : Nat → Int32} {s_snowf : Nat → Int32} {s_saltEndf : Nat → Int32} {s_complainedf : Nat → Int32} {s_clearingsf : Nat → Int32} {s_countf : Int32} {q_placef : Nat → Int32} {q_targetf : Nat → Int32} {q_minutesLeftf : Nat → Int32} {q_waitingf : Nat → Int32} {q_ordersf : Nat → Int32} {q_countf : Int32} {m_thrown : Int32} {m_s : Nat → Int32} {m_tried : Nat → Int32} {m_far : Nat → Int32} {m_drift : Nat → Int32} {o : Nat → Int64} (hTo : zTo tb t_time t_store t_rate t_force t_cleared t_ploughed t_failed t_complained s_lower s_higher s_kind s_size s_snow s_saltEnd s_complained s_clearings s_count q_place q_target q_minutesLeft q_waiting q_orders q_count m_s) {K : (Nat → Int32) → (Nat → Int32) → Int32 → Int32 → Int32 → Int32 → Int32 → Int32 → Int32 → Int32 → (Nat → Int32) → (Nat → Int32) → (Nat → Int32) → (Nat → Int32) → (Nat → Int32) → (Nat → Int32) → (Nat → Int32) → (Nat → Int32) → Int32 → (Nat → Int32) → (Nat → Int32) → (Nat → Int32) → (Nat → Int32) → (Nat → Int32) → Int32 → Int32 → (Nat → Int32) → (Nat → Int32) → (Nat → Int32) → (Nat → Int32) → (Nat → Int64) → Prop} (hK : ∀ (u1 : Nat → Int32) (u2 : Nat → Int32) (u3 : Int32) (u4 : Int32) (u5 : Int32) (u6 : Int32) (u7 : Int32) (u8 : Int32) (u9 : Int32) (u10 : Int32) (u11 : Nat → Int32) (u12 : Nat → Int32) (u13 : Nat → Int32) (u14 : Nat → Int32) (u15 : Nat → Int32) (u16 : Nat → Int32) (u17 : Nat → Int32) (u18 : Nat → Int32) (u19 : Int32) (u20 : Nat → Int32) (u21 : Nat → Int32) (u22 : Nat → Int32) (u23 : Nat → Int32) (u24 : Nat → Int32) (u25 : Int32) (u26 : Int32) (u27 : Nat → Int32) (u28 : Nat → Int32) (u29 : Nat → Int32) (u30 : Nat → Int32) (u31 : Nat → Int64), zTo (tb + 36000) t_time t_store t_rate t_force t_cleared t_ploughed t_failed t_complained s_lower s_higher s_kind s_size s_snow s_saltEnd s_complained s_clearings s_count q_place q_target q_minutesLeft q_waiting q_orders q_count u27 → K u1 u2 u3 u4 u5 u6 u7 u8 u9 u10 u11 u12 u13 u14 u15 u16 u17 u18 u19 u20 u21 u22 u23 u24 u25 u26 u27 u28 u29 u30 u31) : wpL_c30 v1 w_reach w_settled t_time t_store t_rate t_force t_cleared t_ploughed t_failed t_complained s_lower s_higher s_kind s_size s_snow s_saltEnd s_complained s_clearings s_count q_place q_target q_minutesLeft q_waiting q_orders q_count t_timef t_storef t_ratef t_forcef t_clearedf t_ploughedf t_failedf t_complainedf s_lowerf s_higherf s_kindf s_sizef s_snowf s_saltEndf s_complainedf s_clearingsf s_countf q_placef q_targetf q_minutesLeftf q_waitingf q_ordersf q_countf m_thrown m_s m_tried m_far m_drift o K := by
  obtain ⟨A, hAt, hT, hM⟩ := hTo
  have hI := hT.1
  have hA := hI.1
  have hs0 : s_count = nI (A 1) := hT.2.2.1.1
  unfold wpL_c30 wpL_minutesUntilCleared wpX6_minutesUntilCleared wpX7_thrown
  by_cases j : ∃ i : Nat, i < A 1 ∧ v1 = nI i
  · obtain ⟨i, hi, rfl⟩ := j
    have hh : ∀ P : Int32 → Prop, P 1 → wpX4_has (nI i) s_count P := fun P h => by rw [hs0]; exact k_hasI hA.1 hi h
    refine hh _ (br_n (by decide) (k_foretell hT (by omega) hi (fun x h1 h2 h3 r s u1 u2 u3 u4 u5 u6 u7 u8 u9 u10 u11 u12 u13 u14 u15 u16 u17 u18 u19 u20 u21 u22 u23 => br_t (nI_pos' (by omega)) (m_until hI (by omega) hM hi (fun x2 g1 g2 g3 m2 t f d hm => ?_) (fun q => absurd (q x h1) (by omega)))) (fun q r s u1 u2 u3 u4 u5 u6 u7 u8 u9 u10 u11 u12 u13 u14 u15 u16 u17 u18 u19 u20 u21 u22 u23 => br_f (by decide) (Or.inr ⟨rfl, m_until hI (by omega) hM hi (fun x2 g1 g2 g3 => absurd (q x2 g1) (by omega)) (fun _ m2 t f d hm => z_noL (by decide) (hK _ _ _ _ _ _ _ _ _ _ _ _ _ _ _ _ _ _ _ _ _ _ _ _ _ _ _ _ _ _ _ ⟨A, by omega, hT, hm⟩))⟩))))
    have ex : x2 = x := by
      rcases Nat.lt_trichotomy x2 x with w | w | w
      · exact absurd (h2 x2 w) (by omega)
      · exact w
      · exact absurd (g2 x w) (by omega)
    subst ex
    exact z_okL (hK _ _ _ _ _ _ _ _ _ _ _ _ _ _ _ _ _ _ _ _ _ _ _ _ _ _ _ _ _ _ _ ⟨A, by omega, hT, hm⟩)
  · have hh : ∀ P : Int32 → Prop, P 0 → wpX4_has v1 s_count P := fun P h => by rw [hs0]; exact k_hasN hA.1 j h
    refine hh _ (br_m rfl (Or.inl ⟨rfl, ?_⟩))
    unfold wpX7_minutesUntilCleared
    refine m_isSN hM hA.1 j (br_m rfl ?_)
    unfold wpX7_minutesUntilCleared_L14
    exact m_yes (br_f (by decide) (z_noL (by decide) (hK _ _ _ _ _ _ _ _ _ _ _ _ _ _ _ _ _ _ _ _ _ _ _ _ _ _ _ _ _ _ _ ⟨A, by omega, hT, hM⟩)))
theorem pc31 {tb : Nat} (htb : tb + 36000 < 2 ^ 29) {v1 : Int32} {v2 : Int32} {w_reach : Nat → Int32} {w_settled : Nat → Int32} {t_time : Int32} {t_store : Int32} {t_rate : Int32} {t_force : Int32} {t_cleared : Int32} {t_ploughed : Int32} {t_failed : Int32} {t_complained : Int32} {s_lower : Nat → Int32} {s_higher : Nat → Int32} {s_kind : Nat → Int32} {s_size : Nat → Int32} {s_snow : Nat → Int32} {s_saltEnd : Nat → Int32} {s_complained : Nat → Int32} {s_clearings : Nat → Int32} {s_count : Int32} {q_place : Nat → Int32} {q_target : Nat → Int32} {q_minutesLeft : Nat → Int32} {q_waiting : Nat → Int32} {q_orders : Nat → Int32} {q_count : Int32} {t_timef : Int32} {t_storef : Int32} {t_ratef : Int32} {t_forcef : Int32} {t_clearedf : Int32} {t_ploughedf : Int32} {t_failedf : Int32} {t_complainedf : Int32} {s_lowerf : Nat → Int32} {s_higherf : Nat → Int32} {s_kindf : Nat → Int32} {s_sizef : Nat → Int32} {s_snowf : Nat → Int32} {s_saltEndf : Nat → Int32} {s_complainedf : Nat → Int32} {s_clearingsf : Nat → Int32} {s_countf : Int32} {q_placef : Nat → Int32} {q_targetf : Nat → Int32} {q_minutesLeftf : Nat → Int32} {q_waitingf : Nat → Int32} {q_ordersf : Nat → Int32} {q_countf : Int32} {m_thrown : Int32} {m_answer : Int32} {m_s : Nat → Int32} {m_tried : Nat → Int32} {m_far : Nat → Int32} {m_drift : Nat → Int32} {o : Nat → Int64} (hTo : zTo tb t_time t_store t_rate t_force t_cleared t_ploughed t_failed t_complained s_lower s_higher s_kind s_size s_snow s_saltEnd s_complained s_clearings s_count q_place q_target q_minutesLeft q_waiting q_orders q_count m_s) {K : (Nat → Int32) → (Nat → Int32) → Int32 → Int32 → Int32 → Int32 → Int32 → Int32 → Int32 → Int32 → (Nat → Int32) → (Nat → Int32) → (Nat → Int32) → (Nat → Int32) → (Nat → Int32) → (Nat → Int32) → (Nat → Int32) → (Nat → Int32) → Int32 → (Nat → Int32) → (Nat → Int32) → (Nat → Int32) → (Nat → Int32) → (Nat → Int32) → Int32 → Int32 → Int32 → (Nat → Int32) → (Nat → Int32) → (Nat → Int32) → (Nat → Int32) → (Nat → Int64) → Prop} (hK : ∀ (u1 : Nat → Int32) (u2 : Nat → Int32) (u3 : Int32) (u4 : Int32) (u5 : Int32) (u6 : Int32) (u7 : Int32) (u8 : Int32) (u9 : Int32) (u10 : Int32) (u11 : Nat → Int32) (u12 : Nat → Int32) (u13 : Nat → Int32) (u14 : Nat → Int32) (u15 : Nat → Int32) (u16 : Nat → Int32) (u17 : Nat → Int32) (u18 : Nat → Int32) (u19 : Int32) (u20 : Nat → Int32) (u21 : Nat → Int32) (u22 : Nat → Int32) (u23 : Nat → Int32) (u24 : Nat → Int32) (u25 : Int32) (u26 : Int32) (u27 : Int32) (u28 : Nat → Int32) (u29 : Nat → Int32) (u30 : Nat → Int32) (u31 : Nat → Int32) (u32 : Nat → Int64), zTo (tb + 36000) t_time t_store t_rate t_force t_cleared t_ploughed t_failed t_complained s_lower s_higher s_kind s_size s_snow s_saltEnd s_complained s_clearings s_count q_place q_target q_minutesLeft q_waiting q_orders q_count u28 → K u1 u2 u3 u4 u5 u6 u7 u8 u9 u10 u11 u12 u13 u14 u15 u16 u17 u18 u19 u20 u21 u22 u23 u24 u25 u26 u27 u28 u29 u30 u31 u32) : wpL_c31 v1 v2 w_reach w_settled t_time t_store t_rate t_force t_cleared t_ploughed t_failed t_complained s_lower s_higher s_kind s_size s_snow s_saltEnd s_complained s_clearings s_count q_place q_target q_minutesLeft q_waiting q_orders q_count t_timef t_storef t_ratef t_forcef t_clearedf t_ploughedf t_failedf t_complainedf s_lowerf s_higherf s_kindf s_sizef s_snowf s_saltEndf s_complainedf s_clearingsf s_countf q_placef q_targetf q_minutesLeftf q_waitingf q_ordersf q_countf m_thrown m_answer m_s m_tried m_far m_drift o K := by
  obtain ⟨A, hAt, hT, hM⟩ := hTo
  have hI := hT.1
  have hA := hI.1
  have hs0 : s_count = nI (A 1) := hT.2.2.1.1
  unfold wpL_c31 wpL_depthAfter wpX6_depthAfter wpX7_thrown
  by_cases j : ∃ i : Nat, i < A 1 ∧ v1 = nI i
  case neg =>
    have hh : ∀ P : Int32 → Prop, P 0 → wpX4_has v1 s_count P := fun P h => by rw [hs0]; exact k_hasN hA.1 j h
    refine hh _ (br_m rfl (Or.inl ⟨rfl, ?_⟩))
    unfold wpX7_depthAfter
    refine m_isSN hM hA.1 j (br_m rfl ?_)
    unfold wpX7_depthAfter_L14
    exact m_yes (br_n (by decide) (z_noL (by decide) (hK _ _ _ _ _ _ _ _ _ _ _ _ _ _ _ _ _ _ _ _ _ _ _ _ _ _ _ _ _ _ _ _ ⟨A, by omega, hT, hM⟩)))
  obtain ⟨i, hi, rfl⟩ := j
  have hh : ∀ P : Int32 → Prop, P 1 → wpX4_has (nI i) s_count P := fun P h => by rw [hs0]; exact k_hasI hA.1 hi h
  refine hh _ (br_n (by decide) ?_)
  by_cases j2 : ∃ n : Nat, 0 ≤ n ∧ n ≤ 600 ∧ v2 = nI n
  case neg =>
    have mno : wpX7_depthAfter (nI i) v2 m_thrown m_answer m_s m_tried m_far m_drift (fun r2 thr a m t f d => thr = 2 ∧ a = m_answer ∧ m = m_s ∧ t = m_tried ∧ f = m_far ∧ d = m_drift) := by
      unfold wpX7_depthAfter
      refine m_isSI hM hA.1 hi (br_n (by decide) ?_)
      unfold wpX7_depthAfter_L14
      refine m_no (br_m rfl (m_inN (a := 0) (b := 600) (by omega) (by omega) j2 (br_m rfl ?_)))
      unfold wpX7_depthAfter_L38
      exact m_yes (br_f (by decide) ⟨rfl, rfl, rfl, rfl, rfl, rfl⟩)
    have mn2 : ∀ post : Int32 → Int32 → Int32 → (Nat → Int32) → (Nat → Int32) → (Nat → Int32) → (Nat → Int32) → Prop, post 0 2 m_answer m_s m_tried m_far m_drift → wpX7_depthAfter (nI i) v2 m_thrown m_answer m_s m_tried m_far m_drift post := by
      intro post hp
      unfold wpX7_depthAfter
      refine m_isSI hM hA.1 hi (br_n (by decide) ?_)
      unfold wpX7_depthAfter_L14
      refine m_no (br_m rfl (m_inN (a := 0) (b := 600) (by omega) (by omega) j2 (br_m rfl ?_)))
      unfold wpX7_depthAfter_L38
      exact m_yes (br_f (by decide) hp)
    rcases z_out (a := 0) (b := 600) (by omega) (by omega) j2 with q | ⟨q1, q2⟩
    · exact br_t q (Or.inr ⟨rfl, mn2 _ (z_noL (by decide) (hK _ _ _ _ _ _ _ _ _ _ _ _ _ _ _ _ _ _ _ _ _ _ _ _ _ _ _ _ _ _ _ _ ⟨A, by omega, hT, hM⟩))⟩)
    · exact br_f q1 (br_f q2 (Or.inr ⟨rfl, mn2 _ (z_noL (by decide) (hK _ _ _ _ _ _ _ _ _ _ _ _ _ _ _ _ _ _ _ _ _ _ _ _ _ _ _ _ _ _ _ _ ⟨A, by omega, hT, hM⟩))⟩))
  obtain ⟨n, -, hn, rfl⟩ := j2
  refine br_f (nI_pos (by omega)) (br_t (nI_le (b := 600) hn (by omega)) ?_)
  by_cases e0 : n = 0
  · subst e0
    refine br_m rfl ⟨vp_in_nI (by omega) (by omega), ?_⟩
    rw [nI_clamp (by omega), zg hT.2.2.1.2.2.2.2.2.1 i hi]
    exact m_after hI hn (by omega) hM hi (fun a m2 t f d hm => z_okL (hK _ _ _ _ _ _ _ _ _ _ _ _ _ _ _ _ _ _ _ _ _ _ _ _ _ _ _ _ _ _ _ _ ⟨A, by omega, hT, hm⟩))
  · refine br_n (nI_ne0 (by omega) (by omega)) (z_copy hT (fun u1 u2 u3 u4 u5 u6 u7 u8 u9 u10 u11 u12 u13 u14 u15 u16 u17 u18 u19 u20 u21 u22 u23 hu _ => k_wait hu (n := n) (by omega) hn (by omega) (fun t c p f tt r s sn co cl pl tg mm w o hu2 _ => ⟨vp_in_nI (by omega) (by omega), ?_⟩)))
    have e1 := (zit_I hI n).2.1.1 1 (by omega) (by omega)
    rw [nI_clamp (by omega), zg hu2.2.2.1.2.2.2.2.2.1 i (by rw [e1]; exact hi)]
    exact m_after hI hn (by omega) hM hi (fun a m2 t f d hm => z_okL (hK _ _ _ _ _ _ _ _ _ _ _ _ _ _ _ _ _ _ _ _ _ _ _ _ _ _ _ _ _ _ _ _ ⟨A, by omega, hT, hm⟩))
theorem pc42 {tb : Nat} (htb : tb + 36000 < 2 ^ 29) {w_reach : Nat → Int32} {w_settled : Nat → Int32} {w_table : Nat → Int32} {t_complained : Int32} {s_lower : Nat → Int32} {s_higher : Nat → Int32} {s_size : Nat → Int32} {s_snow : Nat → Int32} {s_complained : Nat → Int32} {s_count : Int32} {m_thrown : Int32} {m_s : Nat → Int32} {t_time : Int32} {t_store : Int32} {t_rate : Int32} {t_force : Int32} {t_cleared : Int32} {t_ploughed : Int32} {t_failed : Int32} {s_kind : Nat → Int32} {s_saltEnd : Nat → Int32} {s_clearings : Nat → Int32} {q_place : Nat → Int32} {q_target : Nat → Int32} {q_minutesLeft : Nat → Int32} {q_waiting : Nat → Int32} {q_orders : Nat → Int32} {q_count : Int32} (hTo : zTo tb t_time t_store t_rate t_force t_cleared t_ploughed t_failed t_complained s_lower s_higher s_kind s_size s_snow s_saltEnd s_complained s_clearings s_count q_place q_target q_minutesLeft q_waiting q_orders q_count m_s) {K : (Nat → Int32) → (Nat → Int32) → (Nat → Int32) → Int32 → Prop} (hK : ∀ (u1 : Nat → Int32) (u2 : Nat → Int32) (u3 : Nat → Int32) (u4 : Int32), K u1 u2 u3 u4) : wpL_c42 w_reach w_settled w_table t_complained s_lower s_higher s_size s_snow s_complained s_count m_thrown m_s K := by
  obtain ⟨A, hAt, hT, hM⟩ := hTo
  obtain ⟨hI, ⟨t0, t3, t4, t5, t6, t7, t8, t9⟩, ⟨rfl, hl, hh, hk, hz, hsn, hse, hco⟩, ⟨rfl, q1, q2, q3, q4, q5⟩, hK9, C, hC, hC4⟩ := hT
  have hA := hI.1
  unfold wpL_c42 wpX6_isConsistent
  refine k_agree hI hl hh hz (fun r s t => br_f (by decide) (k_compSum hA.1 hco ?_))
  rw [t9]
  by_cases e : nI (zsum (fun i => A (16 + 7 * i)) (A 1)) = nI (A 9)
  · exact br_m e (k_depths hI hsn (br_f (by decide) (m_cons hI hM (fun _ => z_eqv rfl (hK _ _ _ _)) (fun q => absurd e q))))
  · exact br_n e (m_cons hI hM (fun q => absurd q e) (fun _ => z_eqv rfl (hK _ _ _ _)))
theorem pc48 {tb : Nat} (htb : tb + 36000 < 2 ^ 29) {d_wrongPosition : Int32} {m_thrown : Int32} {m_errorAt : Int32} {o : Nat → Int64} {d_refusedCommand : Int32} {m_failedAt : Int32} (hEr : zEr d_wrongPosition d_refusedCommand m_errorAt m_failedAt) {K : Int32 → (Nat → Int64) → Prop} (hK : ∀ (u1 : Int32) (u2 : Nat → Int64), K u1 u2) : wpL_c48 d_wrongPosition m_thrown m_errorAt o K := by
  obtain ⟨ea, eb⟩ := hEr
  unfold wpL_c48 wpL_errorPosition wpX6_errorPosition wpX7_errorPosition wpX7_thrown
  by_cases e : 0 ≤ m_errorAt
  · refine br_t (by rw [ea]; exact e) (br_t e (m_no (br_t rfl ?_)))
    rw [ea]
    exact z_okL (hK _ _)
  · exact br_f (by rw [ea]; exact e) ⟨rfl, br_f e (m_yes (br_f (by decide) (z_noL (by decide) (hK _ _))))⟩
theorem pc49 {tb : Nat} (htb : tb + 36000 < 2 ^ 29) {d_refusedCommand : Int32} {m_thrown : Int32} {m_failedAt : Int32} {o : Nat → Int64} {d_wrongPosition : Int32} {m_errorAt : Int32} (hEr : zEr d_wrongPosition d_refusedCommand m_errorAt m_failedAt) {K : Int32 → (Nat → Int64) → Prop} (hK : ∀ (u1 : Int32) (u2 : Nat → Int64), K u1 u2) : wpL_c49 d_refusedCommand m_thrown m_failedAt o K := by
  obtain ⟨ea, eb⟩ := hEr
  unfold wpL_c49 wpL_failedCommand wpX6_failedCommand wpX7_failedCommand wpX7_thrown
  by_cases e : 0 ≤ m_failedAt
  · refine br_t (by rw [eb]; exact e) (br_t e (m_no (br_t rfl ?_)))
    rw [eb]
    exact z_okL (hK _ _)
  · exact br_f (by rw [eb]; exact e) ⟨rfl, br_f e (m_yes (br_f (by decide) (z_noL (by decide) (hK _ _))))⟩
theorem pc50 {tb : Nat} (htb : tb + 36000 < 2 ^ 29) {t_time : Int32} {t_store : Int32} {t_rate : Int32} {t_force : Int32} {t_cleared : Int32} {t_ploughed : Int32} {t_failed : Int32} {t_complained : Int32} {s_lower : Nat → Int32} {s_higher : Nat → Int32} {s_kind : Nat → Int32} {s_size : Nat → Int32} {s_snow : Nat → Int32} {s_saltEnd : Nat → Int32} {s_complained : Nat → Int32} {s_clearings : Nat → Int32} {s_count : Int32} {q_place : Nat → Int32} {q_target : Nat → Int32} {q_minutesLeft : Nat → Int32} {q_waiting : Nat → Int32} {q_orders : Nat → Int32} {q_count : Int32} {h_free : Int32} {h_count : Int32} {R : Nat → TT} {m_changes : Int32} {m_thrown : Int32} {m_s : Nat → Int32} {m_past : Nat → Int32} {o : Nat → Int64} (hTo : zTo tb t_time t_store t_rate t_force t_cleared t_ploughed t_failed t_complained s_lower s_higher s_kind s_size s_snow s_saltEnd s_complained s_clearings s_count q_place q_target q_minutesLeft q_waiting q_orders q_count m_s) (hHi : zHi tb h_free h_count R m_changes m_past) {K : Int32 → Int32 → Int32 → Int32 → Int32 → Int32 → Int32 → Int32 → (Nat → Int32) → (Nat → Int32) → (Nat → Int32) → (Nat → Int32) → (Nat → Int32) → (Nat → Int32) → (Nat → Int32) → (Nat → Int32) → Int32 → (Nat → Int32) → (Nat → Int32) → (Nat → Int32) → (Nat → Int32) → (Nat → Int32) → Int32 → Int32 → Int32 → Int32 → Int32 → (Nat → Int32) → (Nat → Int64) → Prop} (hK : ∀ (u1 : Int32) (u2 : Int32) (u3 : Int32) (u4 : Int32) (u5 : Int32) (u6 : Int32) (u7 : Int32) (u8 : Int32) (u9 : Nat → Int32) (u10 : Nat → Int32) (u11 : Nat → Int32) (u12 : Nat → Int32) (u13 : Nat → Int32) (u14 : Nat → Int32) (u15 : Nat → Int32) (u16 : Nat → Int32) (u17 : Int32) (u18 : Nat → Int32) (u19 : Nat → Int32) (u20 : Nat → Int32) (u21 : Nat → Int32) (u22 : Nat → Int32) (u23 : Int32) (u24 : Int32) (u25 : Int32) (u26 : Int32) (u27 : Int32) (u28 : Nat → Int32) (u29 : Nat → Int64), zTo (tb + 36000) u1 u2 u3 u4 u5 u6 u7 u8 u9 u10 u11 u12 u13 u14 u15 u16 u17 u18 u19 u20 u21 u22 u23 u28 → zHi (tb + 36000) u24 u25 R u26 m_past → K u1 u2 u3 u4 u5 u6 u7 u8 u9 u10 u11 u12 u13 u14 u15 u16 u17 u18 u19 u20 u21 u22 u23 u24 u25 u26 u27 u28 u29) : wpL_c50 t_time t_store t_rate t_force t_cleared t_ploughed t_failed t_complained s_lower s_higher s_kind s_size s_snow s_saltEnd s_complained s_clearings s_count q_place q_target q_minutesLeft q_waiting q_orders q_count h_free h_count R m_changes m_thrown m_s m_past o K := by
  obtain ⟨A, hAt, hT, hM⟩ := hTo
  obtain ⟨f, c, h, hf, hc, rfl, rfl, rfl, hh⟩ := hHi
  unfold wpL_c50 wpL_undo wpX6_undo wpX7_undo wpX7_thrown
  by_cases e0 : c = 0
  · subst e0
    refine br_f (by decide) ⟨rfl, br_m rfl ?_⟩
    unfold wpX7_undo_L13
    exact m_yes (br_f (by decide) (z_noL (by decide) (hK _ _ _ _ _ _ _ _ _ _ _ _ _ _ _ _ _ _ _ _ _ _ _ _ _ _ _ _ _ ⟨A, by omega, hT, hM⟩ ⟨f, 0, h, hf, by omega, rfl, rfl, rfl, zHr_w hf hc (by omega) hh (fun _ _ => rfl)⟩)))
  · obtain ⟨b1, b2, b3⟩ := hh (c - 1) (by omega)
    refine br_t (nI_lt (a := 0) (by omega) (by omega)) ?_
    unfold wpX0_pop
    have ef : ((nI f + 9) - 1) - ((nI f + 9) - 1) / 9 * 9 = nI ((f + 8) % 9) := by
      rw [show nI f + 9 = nI (f + 9) from nI_add f 9, show nI (f + 9) - 1 = nI (f + 8) from pk_sub (a := f + 9) (b := 1) (by omega)]
      exact pk_rem (d := 9) (by omega) (by omega) (by omega)
    have ec : nI c - 1 = nI (c - 1) := pk_sub (b := 1) (by omega)
    rw [ef, ec]
    have hR : zTT (h (c - 1)) (R ((f + 8) % 9)) := by
      rw [show (f + 8) % 9 = (f + (9 - c) + (c - 1)) % 9 by omega]
      exact b2
    refine k_read (by omega) hR (fun u1 u2 u3 u4 u5 u6 u7 u8 u9 u10 u11 u12 u13 u14 u15 u16 u17 u18 u19 u20 u21 u22 u23 hu => br_n (nI_ne0 (by omega) (by omega)) ?_)
    unfold wpX7_undo_L13
    refine m_no (br_t rfl ?_)
    rw [ec]
    refine m_copies (a := 130 * (c - 1)) (b := 0) (by omega) (by omega) (by omega) (by omega) (by rw [show (130 : Int32) = nI 130 from rfl, pk_mul]) rfl (fun m2 h1 _ => z_okL (hK _ _ _ _ _ _ _ _ _ _ _ _ _ _ _ _ _ _ _ _ _ _ _ _ _ _ _ _ _ ⟨h (c - 1), by omega, hu, fun k hk => ?_⟩ ⟨(f + 8) % 9, c - 1, h, by omega, by omega, rfl, rfl, rfl, fun i hi => ?_⟩))
    · have := h1 k hk
      rw [Nat.zero_add] at this
      rw [this, b3 k hk]
    · obtain ⟨d1, d2, d3⟩ := hh i (by omega)
      rw [show ((f + 8) % 9 + (9 - (c - 1)) + i) % 9 = (f + (9 - c) + i) % 9 by omega]
      exact ⟨by omega, d2, d3⟩
theorem pc51 {tb : Nat} (htb : tb + 36000 < 2 ^ 29) {d_saved : Int32} {t_time : Int32} {t_store : Int32} {t_rate : Int32} {t_force : Int32} {t_cleared : Int32} {t_ploughed : Int32} {t_failed : Int32} {t_complained : Int32} {s_lower : Nat → Int32} {s_higher : Nat → Int32} {s_kind : Nat → Int32} {s_size : Nat → Int32} {s_snow : Nat → Int32} {s_saltEnd : Nat → Int32} {s_complained : Nat → Int32} {s_clearings : Nat → Int32} {s_count : Int32} {q_place : Nat → Int32} {q_target : Nat → Int32} {q_minutesLeft : Nat → Int32} {q_waiting : Nat → Int32} {q_orders : Nat → Int32} {q_count : Int32} {t_timep : Int32} {t_storep : Int32} {t_ratep : Int32} {t_forcep : Int32} {t_clearedp : Int32} {t_ploughedp : Int32} {t_failedp : Int32} {t_complainedp : Int32} {s_lowerp : Nat → Int32} {s_higherp : Nat → Int32} {s_kindp : Nat → Int32} {s_sizep : Nat → Int32} {s_snowp : Nat → Int32} {s_saltEndp : Nat → Int32} {s_complainedp : Nat → Int32} {s_clearingsp : Nat → Int32} {s_countp : Int32} {q_placep : Nat → Int32} {q_targetp : Nat → Int32} {q_minutesLeftp : Nat → Int32} {q_waitingp : Nat → Int32} {q_ordersp : Nat → Int32} {q_countp : Int32} {m_thrown : Int32} {m_isSaved : Int32} {m_s : Nat → Int32} {m_saved : Nat → Int32} (hTo : zTo tb t_time t_store t_rate t_force t_cleared t_ploughed t_failed t_complained s_lower s_higher s_kind s_size s_snow s_saltEnd s_complained s_clearings s_count q_place q_target q_minutesLeft q_waiting q_orders q_count m_s) (hSv : zSv tb d_saved t_timep t_storep t_ratep t_forcep t_clearedp t_ploughedp t_failedp t_complainedp s_lowerp s_higherp s_kindp s_sizep s_snowp s_saltEndp s_complainedp s_clearingsp s_countp q_placep q_targetp q_minutesLeftp q_waitingp q_ordersp q_countp m_isSaved m_saved) {K : Int32 → Int32 → Int32 → Int32 → Int32 → Int32 → Int32 → Int32 → Int32 → (Nat → Int32) → (Nat → Int32) → (Nat → Int32) → (Nat → Int32) → (Nat → Int32) → (Nat → Int32) → (Nat → Int32) → (Nat → Int32) → Int32 → (Nat → Int32) → (Nat → Int32) → (Nat → Int32) → (Nat → Int32) → (Nat → Int32) → Int32 → Int32 → Int32 → (Nat → Int32) → Prop} (hK : ∀ (u1 : Int32) (u2 : Int32) (u3 : Int32) (u4 : Int32) (u5 : Int32) (u6 : Int32) (u7 : Int32) (u8 : Int32) (u9 : Int32) (u10 : Nat → Int32) (u11 : Nat → Int32) (u12 : Nat → Int32) (u13 : Nat → Int32) (u14 : Nat → Int32) (u15 : Nat → Int32) (u16 : Nat → Int32) (u17 : Nat → Int32) (u18 : Int32) (u19 : Nat → Int32) (u20 : Nat → Int32) (u21 : Nat → Int32) (u22 : Nat → Int32) (u23 : Nat → Int32) (u24 : Int32) (u25 : Int32) (u26 : Int32) (u27 : Nat → Int32), zSv (tb + 36000) u1 u2 u3 u4 u5 u6 u7 u8 u9 u10 u11 u12 u13 u14 u15 u16 u17 u18 u19 u20 u21 u22 u23 u24 u26 u27 → K u1 u2 u3 u4 u5 u6 u7 u8 u9 u10 u11 u12 u13 u14 u15 u16 u17 u18 u19 u20 u21 u22 u23 u24 u25 u26 u27) : wpL_c51 d_saved t_time t_store t_rate t_force t_cleared t_ploughed t_failed t_complained s_lower s_higher s_kind s_size s_snow s_saltEnd s_complained s_clearings s_count q_place q_target q_minutesLeft q_waiting q_orders q_count t_timep t_storep t_ratep t_forcep t_clearedp t_ploughedp t_failedp t_complainedp s_lowerp s_higherp s_kindp s_sizep s_snowp s_saltEndp s_complainedp s_clearingsp s_countp q_placep q_targetp q_minutesLeftp q_waitingp q_ordersp q_countp m_thrown m_isSaved m_s m_saved K := by
  obtain ⟨A, hAt, hT, hM⟩ := hTo
  unfold wpL_c51 wpX6_save wpX7_save
  refine z_copy hT (fun u1 u2 u3 u4 u5 u6 u7 u8 u9 u10 u11 u12 u13 u14 u15 u16 u17 u18 u19 u20 u21 u22 u23 hu _ => m_back hM (fun m2 h2 => ⟨by unfold vp_in; decide, z_eqv ?_ (hK _ _ _ _ _ _ _ _ _ _ _ _ _ _ _ _ _ _ _ _ _ _ _ _ _ _ _ (Or.inr ⟨rfl, rfl, A, by omega, hu, h2⟩))⟩))
  rw [show (1 : Int32).toNatClampNeg = 1 from rfl, hM 1 (by omega)]
  exact hT.2.2.1.1
theorem pc52 {tb : Nat} (htb : tb + 36000 < 2 ^ 29) {d_saved : Int32} {t_time : Int32} {t_store : Int32} {t_rate : Int32} {t_force : Int32} {t_cleared : Int32} {t_ploughed : Int32} {t_failed : Int32} {t_complained : Int32} {s_lower : Nat → Int32} {s_higher : Nat → Int32} {s_kind : Nat → Int32} {s_size : Nat → Int32} {s_snow : Nat → Int32} {s_saltEnd : Nat → Int32} {s_complained : Nat → Int32} {s_clearings : Nat → Int32} {s_count : Int32} {q_place : Nat → Int32} {q_target : Nat → Int32} {q_minutesLeft : Nat → Int32} {q_waiting : Nat → Int32} {q_orders : Nat → Int32} {q_count : Int32} {t_timep : Int32} {t_storep : Int32} {t_ratep : Int32} {t_forcep : Int32} {t_clearedp : Int32} {t_ploughedp : Int32} {t_failedp : Int32} {t_complainedp : Int32} {s_lowerp : Nat → Int32} {s_higherp : Nat → Int32} {s_kindp : Nat → Int32} {s_sizep : Nat → Int32} {s_snowp : Nat → Int32} {s_saltEndp : Nat → Int32} {s_complainedp : Nat → Int32} {s_clearingsp : Nat → Int32} {s_countp : Int32} {q_placep : Nat → Int32} {q_targetp : Nat → Int32} {q_minutesLeftp : Nat → Int32} {q_waitingp : Nat → Int32} {q_ordersp : Nat → Int32} {q_countp : Int32} {h_count : Int32} {m_changes : Int32} {m_thrown : Int32} {m_isSaved : Int32} {m_s : Nat → Int32} {m_saved : Nat → Int32} {o : Nat → Int64} {h_free : Int32} {R : Nat → TT} {m_past : Nat → Int32} (hTo : zTo tb t_time t_store t_rate t_force t_cleared t_ploughed t_failed t_complained s_lower s_higher s_kind s_size s_snow s_saltEnd s_complained s_clearings s_count q_place q_target q_minutesLeft q_waiting q_orders q_count m_s) (hHi : zHi tb h_free h_count R m_changes m_past) (hSv : zSv tb d_saved t_timep t_storep t_ratep t_forcep t_clearedp t_ploughedp t_failedp t_complainedp s_lowerp s_higherp s_kindp s_sizep s_snowp s_saltEndp s_complainedp s_clearingsp s_countp q_placep q_targetp q_minutesLeftp q_waitingp q_ordersp q_countp m_isSaved m_saved) {K : Int32 → Int32 → Int32 → Int32 → Int32 → Int32 → Int32 → Int32 → (Nat → Int32) → (Nat → Int32) → (Nat → Int32) → (Nat → Int32) → (Nat → Int32) → (Nat → Int32) → (Nat → Int32) → (Nat → Int32) → Int32 → (Nat → Int32) → (Nat → Int32) → (Nat → Int32) → (Nat → Int32) → (Nat → Int32) → Int32 → Int32 → Int32 → Int32 → (Nat → Int32) → (Nat → Int64) → Prop} (hK : ∀ (u1 : Int32) (u2 : Int32) (u3 : Int32) (u4 : Int32) (u5 : Int32) (u6 : Int32) (u7 : Int32) (u8 : Int32) (u9 : Nat → Int32) (u10 : Nat → Int32) (u11 : Nat → Int32) (u12 : Nat → Int32) (u13 : Nat → Int32) (u14 : Nat → Int32) (u15 : Nat → Int32) (u16 : Nat → Int32) (u17 : Int32) (u18 : Nat → Int32) (u19 : Nat → Int32) (u20 : Nat → Int32) (u21 : Nat → Int32) (u22 : Nat → Int32) (u23 : Int32) (u24 : Int32) (u25 : Int32) (u26 : Int32) (u27 : Nat → Int32) (u28 : Nat → Int64), zTo (tb + 36000) u1 u2 u3 u4 u5 u6 u7 u8 u9 u10 u11 u12 u13 u14 u15 u16 u17 u18 u19 u20 u21 u22 u23 u27 → zHi (tb + 36000) h_free u24 R u25 m_past → K u1 u2 u3 u4 u5 u6 u7 u8 u9 u10 u11 u12 u13 u14 u15 u16 u17 u18 u19 u20 u21 u22 u23 u24 u25 u26 u27 u28) : wpL_c52 d_saved t_time t_store t_rate t_force t_cleared t_ploughed t_failed t_complained s_lower s_higher s_kind s_size s_snow s_saltEnd s_complained s_clearings s_count q_place q_target q_minutesLeft q_waiting q_orders q_count t_timep t_storep t_ratep t_forcep t_clearedp t_ploughedp t_failedp t_complainedp s_lowerp s_higherp s_kindp s_sizep s_snowp s_saltEndp s_complainedp s_clearingsp s_countp q_placep q_targetp q_minutesLeftp q_waitingp q_ordersp q_countp h_count m_changes m_thrown m_isSaved m_s m_saved o K := by
  obtain ⟨A, hAt, hT, hM⟩ := hTo
  unfold wpL_c52 wpL_restore wpX6_restore wpX7_restore wpX7_thrown
  rcases hSv with ⟨rfl, rfl⟩ | ⟨rfl, rfl, S, hSt, hSc, hSm⟩
  · refine br_m rfl ⟨rfl, br_m rfl ?_⟩
    unfold wpX7_restore_L13
    exact m_yes (br_f (by decide) (z_noL (by decide) (hK _ _ _ _ _ _ _ _ _ _ _ _ _ _ _ _ _ _ _ _ _ _ _ _ _ _ _ _ ⟨A, by omega, hT, hM⟩ (zHi_mono (by omega) hHi))))
  · refine br_n (by decide) (z_copy hSc (fun u1 u2 u3 u4 u5 u6 u7 u8 u9 u10 u11 u12 u13 u14 u15 u16 u17 u18 u19 u20 u21 u22 u23 hu _ => br_n (by decide) ?_))
    unfold wpX7_restore_L13
    refine m_no (br_t rfl (m_back hSm (fun m2 h2 => ⟨by unfold vp_in; decide, ?_⟩)))
    rw [show (1 : Int32).toNatClampNeg = 1 from rfl, h2 1 (by omega), ← hu.2.2.1.1]
    obtain ⟨f, c, h, hf, hc, e1, e2, e3, hh⟩ := hHi
    exact z_okL (hK _ _ _ _ _ _ _ _ _ _ _ _ _ _ _ _ _ _ _ _ _ _ _ _ _ _ _ _ ⟨S, by omega, hu, h2⟩ ⟨f, 0, h, hf, by omega, e1, rfl, rfl, fun i hi => absurd hi (Nat.not_lt_zero i)⟩)
