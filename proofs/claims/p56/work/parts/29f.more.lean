/-! predictions, urgency, output; undo, save, restore; a sign typed; a script -/
theorem q_depthLater {tb : Nat} {Z : (Nat → Nat) → Prop} {A : Nat → Nat} {c : Nat} {h : Nat → Nat → Nat} {V : DV} (hV : zST tb Z A c h V) (htb : tb + 6000 < 2 ^ 29) (hi : 0 < A 1) {post : Int32 → DV → Prop} (hp : ∀ (n : Nat) V', n ≤ 200 → zST tb Z A c h V' → post (nI n) V') : wpL_depthAfter 0 130 V post := by
  obtain ⟨⟨d1, d2, d3, w_reach, w_settled, d6⟩, ⟨t_time, t_store, t_rate, t_force, t_cleared, t_ploughed, t_failed, t_complained, s_lower, s_higher, s_kind, s_size, s_snow, s_saltEnd, s_complained, s_clearings, s_count, q_place, q_target, q_minutesLeft, q_waiting, q_orders, q_count⟩, F, S, ⟨h_free, h_count, R⟩, ⟨g1, g2, g3, b_mlt, b_countt, b_att, b_capt, b_bytest, b_mlo, b_counto, b_ato, b_capo, b_byteso⟩⟩ := V
  obtain ⟨hAt, hT, hR⟩ := hV
  have hT : zTc A t_time t_store t_rate t_force t_cleared t_ploughed t_failed t_complained s_lower s_higher s_kind s_size s_snow s_saltEnd s_complained s_clearings s_count q_place q_target q_minutesLeft q_waiting q_orders q_count := hT
  have hI := hT.1
  have hA := hI.1
  have hs0 : s_count = nI (A 1) := hT.2.2.1.1
  have g := hI.2.1 0 hi
  unfold wpL_depthAfter wpP_depthAfter wpX6_depthAfter
  dsimp only
  have hh : ∀ P : Int32 → Prop, P 1 → wpX4_has (nI 0) s_count P := fun P h => by rw [hs0]; exact k_hasI hA.1 hi h
  refine hh _ (br_n (by decide) (br_f (by decide) (br_t (by decide) (br_n (by decide) (z_copy hT (fun u1 u2 u3 u4 u5 u6 u7 u8 u9 u10 u11 u12 u13 u14 u15 u16 u17 u18 u19 u20 u21 u22 u23 hu _ => k_wait hu (n := 130) (by omega) (by omega) (by omega) (fun t c p f tt r s sn co cl pl tg mm w o hu2 _ => ⟨(vp_in_nI (show 0 < 12 by omega) (by omega) : vp_in (nI 0) 12), ?_⟩)))))))
  have e1 := (zit_I hI 130).2.1.1 1 (by omega) (by omega)
  have g2 := ((zit_I hI 130).1.2.1 0 (by rw [e1]; exact hi)).2.2.2.2.2.2.1
  rw [show (0 : Int32).toNatClampNeg = 0 from rfl, zg hu2.2.2.1.2.2.2.2.2.1 0 (by rw [e1]; exact hi)]
  exact hp _ _ (by omega) ⟨hAt, hT, hR⟩
theorem q_until {tb : Nat} {Z : (Nat → Nat) → Prop} {A : Nat → Nat} {c : Nat} {h : Nat → Nat → Nat} {V : DV} (hV : zST tb Z A c h V) (htb : tb + 6000 < 2 ^ 29) (hi : 0 < A 1) {post : Int32 → DV → Prop} (hp : ∀ r V', ((∃ n : Nat, n ≤ 600 ∧ r = nI n) ∨ r = -900002) → zST tb Z A c h V' → post r V') : wpL_minutesUntilCleared 0 V post := by
  obtain ⟨⟨d1, d2, d3, w_reach, w_settled, d6⟩, ⟨t_time, t_store, t_rate, t_force, t_cleared, t_ploughed, t_failed, t_complained, s_lower, s_higher, s_kind, s_size, s_snow, s_saltEnd, s_complained, s_clearings, s_count, q_place, q_target, q_minutesLeft, q_waiting, q_orders, q_count⟩, F, S, ⟨h_free, h_count, R⟩, ⟨g1, g2, g3, b_mlt, b_countt, b_att, b_capt, b_bytest, b_mlo, b_counto, b_ato, b_capo, b_byteso⟩⟩ := V
  obtain ⟨hAt, hT, hR⟩ := hV
  have hT : zTc A t_time t_store t_rate t_force t_cleared t_ploughed t_failed t_complained s_lower s_higher s_kind s_size s_snow s_saltEnd s_complained s_clearings s_count q_place q_target q_minutesLeft q_waiting q_orders q_count := hT
  have hI := hT.1
  have hA := hI.1
  have hs0 : s_count = nI (A 1) := hT.2.2.1.1
  unfold wpL_minutesUntilCleared wpP_minutesUntilCleared wpX6_minutesUntilCleared
  dsimp only
  have hh : ∀ P : Int32 → Prop, P 1 → wpX4_has (nI 0) s_count P := fun P h => by rw [hs0]; exact k_hasI hA.1 hi h
  refine hh _ (br_n (by decide) (k_foretell hT (by omega) hi (fun x h1 h2 h3 r s u1 u2 u3 u4 u5 u6 u7 u8 u9 u10 u11 u12 u13 u14 u15 u16 u17 u18 u19 u20 u21 u22 u23 => br_t (nI_pos' (by omega)) (hp _ _ (Or.inl ⟨x + 1, by omega, rfl⟩) ⟨hAt, hT, hR⟩)) (fun q r s u1 u2 u3 u4 u5 u6 u7 u8 u9 u10 u11 u12 u13 u14 u15 u16 u17 u18 u19 u20 u21 u22 u23 => br_f (by decide) (Or.inr ⟨rfl, hp _ _ (Or.inr rfl) ⟨hAt, hT, hR⟩⟩))))
theorem q_urgency {tb : Nat} {Z : (Nat → Nat) → Prop} {A : Nat → Nat} {c : Nat} {h : Nat → Nat → Nat} {V : DV} (hV : zST tb Z A c h V) {post : Int32 → DV → Prop} (hp : ∀ r, ((∃ n : Nat, n ≤ 600 ∧ r = nI n) ∨ r = -900001) → post r V) : wpL_streetByUrgency 0 V post := by
  obtain ⟨⟨d1, d2, d3, w_reach, w_settled, d6⟩, ⟨t_time, t_store, t_rate, t_force, t_cleared, t_ploughed, t_failed, t_complained, s_lower, s_higher, s_kind, s_size, s_snow, s_saltEnd, s_complained, s_clearings, s_count, q_place, q_target, q_minutesLeft, q_waiting, q_orders, q_count⟩, F, S, ⟨h_free, h_count, R⟩, ⟨g1, g2, g3, b_mlt, b_countt, b_att, b_capt, b_bytest, b_mlo, b_counto, b_ato, b_capo, b_byteso⟩⟩ := V
  obtain ⟨hAt, hT, hR⟩ := hV
  have hT : zTc A t_time t_store t_rate t_force t_cleared t_ploughed t_failed t_complained s_lower s_higher s_kind s_size s_snow s_saltEnd s_complained s_clearings s_count q_place q_target q_minutesLeft q_waiting q_orders q_count := hT
  have hT9 := hT
  obtain ⟨hI, ⟨rfl, rfl, rfl, rfl, rfl, rfl, rfl, rfl⟩, ⟨rfl, hl, hh, hk, hz, hsn, hse, hco⟩, ⟨rfl, q1, q2, q3, q4, q5⟩, hK9, C, hC, hC4⟩ := hT
  have hA := hI.1
  unfold wpL_streetByUrgency wpP_streetByUrgency wpX6_streetByUrgency
  dsimp only
  refine k_atRank hI hk hsn (fun y hy e hmin => br_t (nI_pos' (by omega)) (hp _ (Or.inl ⟨y, by omega, rfl⟩))) (fun q => br_f (by decide) ⟨rfl, hp _ (Or.inr rfl)⟩)
theorem q_renderStreet {tb : Nat} {Z : (Nat → Nat) → Prop} {A : Nat → Nat} {c : Nat} {h : Nat → Nat → Nat} {V : DV} (hV : zST tb Z A c h V) (htb : tb + 6000 < 2 ^ 29) (hi : 0 < A 1) {post : Int32 → DV → Prop} (hp : ∀ (n : Nat) V', n ≤ 16 → zST tb Z A c h V' → post (nI n) V') : wpD_renderStreet 0 V post := by
  obtain ⟨⟨d1, d2, d3, w_reach, w_settled, d6⟩, ⟨t_time, t_store, t_rate, t_force, t_cleared, t_ploughed, t_failed, t_complained, s_lower, s_higher, s_kind, s_size, s_snow, s_saltEnd, s_complained, s_clearings, s_count, q_place, q_target, q_minutesLeft, q_waiting, q_orders, q_count⟩, F, S, ⟨h_free, h_count, R⟩, ⟨g1, g2, g3, b_mlt, b_countt, b_att, b_capt, b_bytest, b_mlo, b_counto, b_ato, b_capo, b_byteso⟩⟩ := V
  obtain ⟨hAt, hT, hH, hZ, hP, hcap, n0, hn0, e0⟩ := hV
  have hT : zTc A t_time t_store t_rate t_force t_cleared t_ploughed t_failed t_complained s_lower s_higher s_kind s_size s_snow s_saltEnd s_complained s_clearings s_count q_place q_target q_minutesLeft q_waiting q_orders q_count := hT
  have hT9 := hT
  obtain ⟨hI, ⟨rfl, rfl, rfl, rfl, rfl, rfl, rfl, rfl⟩, ⟨rfl, hl, hh, hk, hz, hsn, hse, hco⟩, ⟨rfl, q1, q2, q3, q4, q5⟩, hK9, C, hC, hC4⟩ := hT
  have hA := hI.1
  have hcap : b_capo = 16 := hcap
  have e0 : b_counto = nI n0 := e0
  subst hcap e0
  unfold wpD_renderStreet wpP_renderStreet wpX6_renderStreet
  dsimp only
  have g := hI.2.1 0 hi
  have z1 := (@zdl_le 0).2.2 (by omega)
  have z2 := zdl_1 (v := A (10 + 7 * 0)) (by omega)
  have z3 := zdl_1 (v := A (11 + 7 * 0)) (by omega)
  have z4 := (@zdl_le (A (14 + 7 * 0))).2.1
  have hin : vp_in (nI 0) 12 := vp_in_nI (by omega) (by omega)
  refine k_hasI hA.1 hi (br_n (by decide) (k_set0 (by omega) (by omega) (fun ml => ?_)))
  refine k_api (v := 0) (x := fun _ => 0) (by omega) (by omega) (by omega) zR_0 (fun b1 h1 => k_apc (c := 58) (by omega) (by omega) (by omega) h1 (fun b2 h2 => ⟨hin, ?_⟩))
  rw [show (0 : Int32).toNatClampNeg = 0 from rfl, zg hl 0 hi]
  refine k_api (by omega) (by omega) (by omega) h2 (fun b3 h3 => k_apc (c := 45) (by omega) (by omega) (by omega) h3 (fun b4 h4 => ⟨hin, ?_⟩))
  rw [zg hh 0 hi]
  refine k_api (by omega) (by omega) (by omega) h4 (fun b5 h5 => ⟨hin, ?_⟩)
  rw [zg hk 0 hi]
  refine k_apc (by omega) (by omega) (by omega) h5 (fun b6 h6 => ⟨hin, ?_⟩)
  rw [zg hsn 0 hi]
  refine k_api (by omega) (by omega) (by omega) h6 (fun b7 h7 => k_cm (by omega) (by omega) h7 (fun b8 h8 => k_salt hI hse hi ?_))
  have fin : ∀ (n : Nat) (b9 : Nat → Int32) (m : Int32), n ≤ 16 → zST tb Z A c h ((d1, d2, d3, w_reach, w_settled, d6), (nI (A 0), nI (A 3), nI (A 4), nI (A 5), nI (A 6), nI (A 7), nI (A 8), nI (A 9), s_lower, s_higher, s_kind, s_size, s_snow, s_saltEnd, s_complained, s_clearings, nI (A 1), q_place, q_target, q_minutesLeft, q_waiting, q_orders, nI (A 2)), F, S, (h_free, h_count, R), (g1, g2, g3, b_mlt, b_countt, b_att, b_capt, b_bytest, m, nI n, b_ato, 16, b9)) := fun n b9 m hn => ⟨hAt, hT9, hH, hZ, hP, rfl, n, hn, rfl⟩
  by_cases e : A 0 < A (15 + 7 * 0)
  · refine br_f (fun q => by have := (z_sub_le (by omega) (by omega)).mp q; omega) (k_apc (c := 42) (by omega) (by omega) (by omega) h8 (fun b9 h9 => ?_))
    exact hp _ _ (by omega) (fin _ _ _ (by omega))
  · refine br_t ((z_sub_le (by omega) (by omega)).mpr (by omega)) ?_
    exact hp _ _ (by omega) (fin _ _ _ (by omega))
theorem q_renderQueue {tb : Nat} {Z : (Nat → Nat) → Prop} {A : Nat → Nat} {c : Nat} {h : Nat → Nat → Nat} {V : DV} (hV : zST tb Z A c h V) (hj : 0 < A 2) {post : Int32 → DV → Prop} (hp : ∀ (n : Nat) V', n ≤ 16 → zST tb Z A c h V' → post (nI n) V') : wpD_renderQueue 0 V post := by
  obtain ⟨⟨d1, d2, d3, w_reach, w_settled, d6⟩, ⟨t_time, t_store, t_rate, t_force, t_cleared, t_ploughed, t_failed, t_complained, s_lower, s_higher, s_kind, s_size, s_snow, s_saltEnd, s_complained, s_clearings, s_count, q_place, q_target, q_minutesLeft, q_waiting, q_orders, q_count⟩, F, S, ⟨h_free, h_count, R⟩, ⟨g1, g2, g3, b_mlt, b_countt, b_att, b_capt, b_bytest, b_mlo, b_counto, b_ato, b_capo, b_byteso⟩⟩ := V
  obtain ⟨hAt, hT, hH, hZ, hP, hcap, n0, hn0, e0⟩ := hV
  have hT : zTc A t_time t_store t_rate t_force t_cleared t_ploughed t_failed t_complained s_lower s_higher s_kind s_size s_snow s_saltEnd s_complained s_clearings s_count q_place q_target q_minutesLeft q_waiting q_orders q_count := hT
  have hT9 := hT
  obtain ⟨hI, ⟨rfl, rfl, rfl, rfl, rfl, rfl, rfl, rfl⟩, ⟨rfl, hl, hh, hk9, hz, hsn, hse, hco⟩, ⟨rfl, q1, q2, q3, q4, q5⟩, hK8, C, hC, hC4⟩ := hT
  have hA := hI.1
  have hcap : b_capo = 16 := hcap
  have e0 : b_counto = nI n0 := e0
  subst hcap e0
  unfold wpD_renderQueue wpP_renderQueue wpX6_renderQueue
  dsimp only
  have g := zI_pl hI hj
  have g5 := g.2.2.2.1
  have gst : ∀ q : Nat, q < A (97 + 9 * 0) → A (98 + 9 * 0 + q) < 12 := fun q hq => by have := g.2.2.2.2 q hq; omega
  have gle : ∀ k : Nat, k ≤ A (97 + 9 * 0) → (zqt A 0 k).1 + 1 ≤ 3 * k ∨ (k = 0 ∧ (zqt A 0 k).1 = 0) := fun k hk => zqt_le k (fun q hq => gst q (by omega))
  have fin : ∀ (n : Nat) (b9 : Nat → Int32) (m : Int32), n ≤ 16 → zST tb Z A c h ((d1, d2, d3, w_reach, w_settled, d6), (nI (A 0), nI (A 3), nI (A 4), nI (A 5), nI (A 6), nI (A 7), nI (A 8), nI (A 9), s_lower, s_higher, s_kind, s_size, s_snow, s_saltEnd, s_complained, s_clearings, nI (A 1), q_place, q_target, q_minutesLeft, q_waiting, q_orders, nI (A 2)), F, S, (h_free, h_count, R), (g1, g2, g3, b_mlt, b_countt, b_att, b_capt, b_bytest, m, nI n, b_ato, 16, b9)) := fun n b9 m hn => ⟨hAt, hT9, hH, hZ, hP, rfl, n, hn, rfl⟩
  refine k_pasI hA.2.1 hj (br_n (by decide) (k_set0 (by omega) (by omega) (fun ml => ?_)))
  refine pk_loop (fun n k (v : Int32 × (Nat → Int32)) => wpX6_renderQueue_L36 (nI 0) q_waiting q_orders (nI (A 2)) 16 ml _ _ n (nI k) v.1 v.2) (fun k v => v.1 = nI (zqt A 0 k).1 ∧ zR v.2 (zqt A 0 k).1 (zqt A 0 k).2) (A (97 + 9 * 0)) 0 (nI 0, b_byteso) (Nat.zero_le _) ⟨rfl, zR_0⟩ ?_ ?_
  · rintro n ⟨c, b⟩ ⟨hc, hb⟩
    dsimp only at hc hb
    subst hc
    refine ⟨vp_in_nI (by omega) (by omega), ?_⟩
    rw [show (nI 0).toNatClampNeg = 0 from rfl, zg q4 0 hj]
    have hlk := gle _ (Nat.le_refl _)
    refine br_t (nI_le (Nat.le_refl _) (by omega)) ?_
    exact hp _ _ (by omega) (fin _ _ _ (by omega))
  · rintro n k ⟨c, b⟩ hk ⟨hc, hb⟩ ih
    dsimp only at hc hb
    subst hc
    have hlk := gle k (by omega)
    have hst := gst k hk
    have hd := (@zdl_le (A (98 + 9 * 0 + k))).2.2 (by omega)
    refine ⟨vp_in_nI (by omega) (by omega), ?_⟩
    rw [show (nI 0).toNatClampNeg = 0 from rfl, zg q4 0 hj]
    refine br_f (nI_ge hk (by omega)) ?_
    have hrest : ∀ (N : Nat) (X : Nat → Nat) (b2 : Nat → Int32) (K3 : Int32 → Int32 → (Nat → Int32) → Prop) (P9 : Int32 → Int32 → Int32 → (Nat → Int32) → Prop) (X9 : String → Int32 → Int32 → (Nat → Int32) → Prop), N + 2 ≤ 16 → zR b2 N X → (∀ b3, zR b3 (N + zdl (A (98 + 9 * 0 + k))) (zap X N (A (98 + 9 * 0 + k))) → K3 (nI (k + 1)) (nI (N + zdl (A (98 + 9 * 0 + k)))) b3) → wpX6_renderQueue_L60 (nI 0) q_waiting q_orders (nI (A 2)) ml 16 K3 P9 X9 (nI k) (nI N) b2 := by
      intro N X b2 K3 P9 X9 hN hb2 h3
      unfold wpX6_renderQueue_L60
      refine k_waitAt hI q4 q5 hj (fun k2 hk2 e2 => ?_) (fun q => absurd ⟨k, hk, rfl⟩ q)
      have ek : k2 = k := ((nI_eq (by omega) (by omega)).mp e2).symm
      subst ek
      refine k_api (by omega) (by omega) (by omega) hb2 (fun b3 g3 => ?_)
      rw [nI_1]
      exact h3 b3 g3
    by_cases e : k = 0
    · have ez : zqt A 0 (k + 1) = ((zqt A 0 k).1 + zdl (A (98 + 9 * 0 + k)), zap (zqt A 0 k).2 (zqt A 0 k).1 (A (98 + 9 * 0 + k))) := if_pos e
      exact br_t (by rw [e]; decide) (hrest _ _ _ _ _ _ (by omega) hb (fun b3 g3 => ih (_, b3) (by rw [ez]; exact ⟨rfl, g3⟩)))
    · have ez : zqt A 0 (k + 1) = ((zqt A 0 k).1 + 1 + zdl (A (98 + 9 * 0 + k)), zap (zu (zqt A 0 k).2 (zqt A 0 k).1 44) ((zqt A 0 k).1 + 1) (A (98 + 9 * 0 + k))) := if_neg e
      exact br_f (nI_nle (by omega) (by omega)) (k_apc (c := 44) (by omega) (by omega) (by omega) hb (fun b2 g2 => hrest _ _ _ _ _ _ (by omega) g2 (fun b3 g3 => ih (_, b3) (by rw [ez]; exact ⟨rfl, g3⟩))))
theorem q_undo {tb : Nat} {Z : (Nat → Nat) → Prop} {A : Nat → Nat} {c : Nat} {h : Nat → Nat → Nat} {V : DV} (hV : zST tb Z A c h V) (hc0 : 0 < c) {post : Int32 → DV → Prop} (hp : ∀ (n : Nat) V', n ≤ 8 → zST tb Z (h (c - 1)) (c - 1) h V' → post (nI n) V') : wpL_undo V post := by
  obtain ⟨⟨d1, d2, d3, w_reach, w_settled, d6⟩, ⟨t_time, t_store, t_rate, t_force, t_cleared, t_ploughed, t_failed, t_complained, s_lower, s_higher, s_kind, s_size, s_snow, s_saltEnd, s_complained, s_clearings, s_count, q_place, q_target, q_minutesLeft, q_waiting, q_orders, q_count⟩, F, S, ⟨h_free, h_count, R⟩, ⟨g1, g2, g3, b_mlt, b_countt, b_att, b_capt, b_bytest, b_mlo, b_counto, b_ato, b_capo, b_byteso⟩⟩ := V
  obtain ⟨hAt, hT, ⟨f, hf, hc, e1, e2, hh⟩, hZ, hP, hO⟩ := hV
  have e1 : h_free = nI f := e1
  have e2 : h_count = nI c := e2
  subst e1 e2
  have hT : zTc A t_time t_store t_rate t_force t_cleared t_ploughed t_failed t_complained s_lower s_higher s_kind s_size s_snow s_saltEnd s_complained s_clearings s_count q_place q_target q_minutesLeft q_waiting q_orders q_count := hT
  have hh : zHs tb f c h R := hh
  unfold wpL_undo wpP_undo wpX6_undo
  dsimp only
  obtain ⟨b1, b2⟩ := hh (c - 1) (by omega)
  refine br_t (nI_lt (a := 0) (by omega) (by omega)) ?_
  unfold wpX0_pop
  have ef : ((nI f + 9) - 1) - ((nI f + 9) - 1) / 9 * 9 = nI ((f + 8) % 9) := by
    rw [show nI f + 9 = nI (f + 9) from nI_add f 9, show nI (f + 9) - 1 = nI (f + 8) from pk_sub (a := f + 9) (b := 1) (by omega)]
    exact pk_rem (d := 9) (by omega) (by omega) (by omega)
  have ec : nI c - 1 = nI (c - 1) := pk_sub (b := 1) (by omega)
  rw [ef, ec]
  have hR : zTT (h (c - 1)) (R ((f + 8) % 9)) := by
    rw [show (f + 8) % 9 = (f + (9 - c) + (c - 1)) % 9 by omega]
    exact b2
  refine k_read (by omega) hR (fun u1 u2 u3 u4 u5 u6 u7 u8 u9 u10 u11 u12 u13 u14 u15 u16 u17 u18 u19 u20 u21 u22 u23 hu => ?_)
  refine hp _ _ (by omega) ⟨b1, hu, ⟨(f + 8) % 9, by omega, by omega, rfl, rfl, fun i hi => ?_⟩, hZ, hP, hO⟩
  obtain ⟨d1, d2⟩ := hh i (by omega)
  refine ⟨d1, ?_⟩
  show zTT (h i) (R (((f + 8) % 9 + (9 - (c - 1)) + i) % 9))
  rw [show ((f + 8) % 9 + (9 - (c - 1)) + i) % 9 = (f + (9 - c) + i) % 9 by omega]
  exact d2
theorem q_undo0 {tb : Nat} {Z : (Nat → Nat) → Prop} {A : Nat → Nat} {c : Nat} {h : Nat → Nat → Nat} {V : DV} (hV : zST tb Z A c h V) (hc0 : c = 0) {post : Int32 → DV → Prop} (hp : post (-900001) V) : wpL_undo V post := by
  obtain ⟨⟨d1, d2, d3, w_reach, w_settled, d6⟩, ⟨t_time, t_store, t_rate, t_force, t_cleared, t_ploughed, t_failed, t_complained, s_lower, s_higher, s_kind, s_size, s_snow, s_saltEnd, s_complained, s_clearings, s_count, q_place, q_target, q_minutesLeft, q_waiting, q_orders, q_count⟩, F, S, ⟨h_free, h_count, R⟩, ⟨g1, g2, g3, b_mlt, b_countt, b_att, b_capt, b_bytest, b_mlo, b_counto, b_ato, b_capo, b_byteso⟩⟩ := V
  obtain ⟨hAt, hT, ⟨f, hf, hc, e1, e2, hh⟩, hZ, hP, hO⟩ := hV
  have e1 : h_free = nI f := e1
  have e2 : h_count = nI c := e2
  subst e1 e2
  have hT : zTc A t_time t_store t_rate t_force t_cleared t_ploughed t_failed t_complained s_lower s_higher s_kind s_size s_snow s_saltEnd s_complained s_clearings s_count q_place q_target q_minutesLeft q_waiting q_orders q_count := hT
  have hh : zHs tb f c h R := hh
  unfold wpL_undo wpP_undo wpX6_undo
  dsimp only
  refine br_f (by subst hc0; decide) ⟨rfl, hp⟩
theorem q_save {tb : Nat} {Z : (Nat → Nat) → Prop} {A : Nat → Nat} {c : Nat} {h : Nat → Nat → Nat} {V : DV} (hV : zST tb Z A c h V) {post : Int32 → DV → Prop} (hp : ∀ V', zST tb (fun S => S = A) A c h V' → post (nI (A 1)) V') : wpP_save V post := by
  obtain ⟨⟨d1, d2, d3, w_reach, w_settled, d6⟩, ⟨t_time, t_store, t_rate, t_force, t_cleared, t_ploughed, t_failed, t_complained, s_lower, s_higher, s_kind, s_size, s_snow, s_saltEnd, s_complained, s_clearings, s_count, q_place, q_target, q_minutesLeft, q_waiting, q_orders, q_count⟩, F, S, ⟨h_free, h_count, R⟩, ⟨g1, g2, g3, b_mlt, b_countt, b_att, b_capt, b_bytest, b_mlo, b_counto, b_ato, b_capo, b_byteso⟩⟩ := V
  obtain ⟨hAt, hT, ⟨f, hf, hc, e1, e2, hh⟩, hZ, hP, hO⟩ := hV
  have e1 : h_free = nI f := e1
  have e2 : h_count = nI c := e2
  subst e1 e2
  have hT : zTc A t_time t_store t_rate t_force t_cleared t_ploughed t_failed t_complained s_lower s_higher s_kind s_size s_snow s_saltEnd s_complained s_clearings s_count q_place q_target q_minutesLeft q_waiting q_orders q_count := hT
  have hh : zHs tb f c h R := hh
  unfold wpP_save wpX6_save
  dsimp only
  have e3 : s_count = nI (A 1) := hT.2.2.1.1
  have e4 : ∀ W, post (nI (A 1)) W → post s_count W := fun W hw => by rw [e3]; exact hw
  refine z_copy hT (fun u1 u2 u3 u4 u5 u6 u7 u8 u9 u10 u11 u12 u13 u14 u15 u16 u17 u18 u19 u20 u21 u22 u23 hu _ => e4 _ (hp _ ⟨hAt, hT, ⟨f, hf, hc, rfl, rfl, hh⟩, fun S hS => ?_, hP, hO⟩))
  subst hS
  exact ⟨rfl, hu⟩
theorem q_restore {tb : Nat} {Z : (Nat → Nat) → Prop} {A : Nat → Nat} {c : Nat} {h : Nat → Nat → Nat} {V : DV} (hV : zST tb Z A c h V) {B : Nat → Nat} (hB : Z B) (hB0 : B 0 ≤ tb) {post : Int32 → DV → Prop} (hp : ∀ V', zST tb Z B 0 h V' → post (nI (B 1)) V') : wpL_restore V post := by
  obtain ⟨⟨d1, d2, d3, w_reach, w_settled, d6⟩, ⟨t_time, t_store, t_rate, t_force, t_cleared, t_ploughed, t_failed, t_complained, s_lower, s_higher, s_kind, s_size, s_snow, s_saltEnd, s_complained, s_clearings, s_count, q_place, q_target, q_minutesLeft, q_waiting, q_orders, q_count⟩, F, S, ⟨h_free, h_count, R⟩, ⟨g1, g2, g3, b_mlt, b_countt, b_att, b_capt, b_bytest, b_mlo, b_counto, b_ato, b_capo, b_byteso⟩⟩ := V
  obtain ⟨hAt, hT, ⟨f, hf, hc, e1, e2, hh⟩, hZ, hP, hO⟩ := hV
  have e1 : h_free = nI f := e1
  have e2 : h_count = nI c := e2
  subst e1 e2
  have hT : zTc A t_time t_store t_rate t_force t_cleared t_ploughed t_failed t_complained s_lower s_higher s_kind s_size s_snow s_saltEnd s_complained s_clearings s_count q_place q_target q_minutesLeft q_waiting q_orders q_count := hT
  have hh : zHs tb f c h R := hh
  unfold wpL_restore wpP_restore wpX6_restore
  dsimp only
  obtain ⟨z1, z2⟩ := hZ B hB
  have z1 : d1 = 1 := z1
  subst z1
  refine br_n (by decide) (z_copy z2 (fun u1 u2 u3 u4 u5 u6 u7 u8 u9 u10 u11 u12 u13 u14 u15 u16 u17 u18 u19 u20 u21 u22 u23 hu _ => ?_))
  have e3 : u17 = nI (B 1) := hu.2.2.1.1
  have e4 : ∀ W, post (nI (B 1)) W → post u17 W := fun W hw => by rw [e3]; exact hw
  exact e4 _ (hp _ ⟨hB0, hu, ⟨f, hf, by omega, rfl, rfl, fun i hi => absurd hi (Nat.not_lt_zero i)⟩, hZ, hP, hO⟩)
