/-! texts: built, typed, run -/
/-- a builder of the law holds n signs -/
def zSb (n cap : Nat) (b : Nat → Int32) : Prop := n ≤ cap ∧ (cap = 16 ∨ cap = 34) ∧ (∀ i : Nat, i < cap → fits .byte (.int (b i)) = true) ∧ ∀ i : Nat, i < n → ∃ v : Nat, 32 ≤ v ∧ v ≤ 126 ∧ b i = nI v
theorem zSb_0 : zSb 0 16 (fun _ => 0) := ⟨by omega, Or.inl rfl, fun _ _ => rfl, fun i hi => absurd hi (Nat.not_lt_zero i)⟩
theorem z_fby {c : Nat} (hc : c < 128) : fits .byte (.int (nI c)) = true := by
  have := pk_fb (nI c)
  rw [z_by8 c hc] at this
  exact this
theorem zSb_p {n cap v : Nat} {b : Nat → Int32} (h : zSb n cap b) (hn : n < cap) (h1 : 32 ≤ v) (h2 : v ≤ 126) : zSb (n + 1) cap (upd b n (nI v)) := by
  obtain ⟨a1, a2, a3, a4⟩ := h
  refine ⟨by omega, a2, fun i hi => ?_, fun i hi => ?_⟩
  · by_cases e : i = n
    · rw [e, pk_us]
      exact z_fby (by omega)
    · rw [pk_un e]
      exact a3 i hi
  · by_cases e : i = n
    · rw [e, pk_us]
      exact ⟨v, h1, h2, rfl⟩
    · rw [pk_un e]
      exact a4 i (by omega)
theorem zSb_2 {n cap v u : Nat} {b : Nat → Int32} (h : zSb n cap b) (hn : n + 2 ≤ cap) (h1 : 32 ≤ v) (h2 : v ≤ 126) (h3 : 32 ≤ u) (h4 : u ≤ 126) : zSb (n + 2) cap (upd (upd b (n + 1) (nI u)) n (nI v)) := by
  have e : upd (upd b (n + 1) (nI u)) n (nI v) = upd (upd b n (nI v)) (n + 1) (nI u) := by
    funext i
    unfold upd
    by_cases e1 : i = n
    · rw [if_pos e1, if_neg (by omega), if_pos e1]
    · rw [if_neg e1, if_neg e1]
  rw [e]
  exact zSb_p (zSb_p h (by omega) h1 h2) (by omega) h3 h4
theorem s_ens {n m cap : Nat} {b : Nat → Int32} (h : zSb n cap b) (hm : n ≤ m) (hm34 : m ≤ 34) {post : (Nat → Nat) → Nat → (Nat → Int32) → Prop} (hp : ∀ a cap' b', zSb n cap' b' → m ≤ cap' → post a cap' b') : wpJ5_ensureCapacityInternal_d00df_g (nI m) cap b post := by
  obtain ⟨a1, a2, a3, a4⟩ := h
  refine ⟨m, rfl, by omega, by omega, a3, fun hq a => hp a cap b ⟨a1, a2, a3, a4⟩ hq, fun hq a => hp a _ _ ⟨by omega, by omega, fun i hi => ?_, fun i hi => ?_⟩ (by omega)⟩
  · by_cases e : i < cap
    · rw [pk_cpy_in (Nat.zero_le _) (by omega), show 0 + (i - 0) = i by omega]
      exact a3 i e
    · rw [pk_cpy_out (Or.inr (by omega))]
      rfl
  · rw [pk_cpy_in (Nat.zero_le _) (by omega), show 0 + (i - 0) = i by omega]
    exact a4 i hi
theorem zSb_c {n m cap : Nat} {b txt : Nat → Int32} (h : zSb n cap b) (hn : n + m ≤ cap) (ht : ∀ j : Nat, j < m → ∃ v : Nat, 32 ≤ v ∧ v ≤ 126 ∧ txt j = nI v) : zSb (n + m) cap (va_cpy txt b 0 n m) := by
  obtain ⟨a1, a2, a3, a4⟩ := h
  refine ⟨hn, a2, fun i hi => ?_, fun i hi => ?_⟩
  · by_cases e : n ≤ i ∧ i < n + m
    · rw [pk_cpy_in e.1 e.2]
      obtain ⟨v, h1, h2, h3⟩ := ht (0 + (i - n)) (by omega)
      rw [h3]
      exact z_fby (by omega)
    · rw [pk_cpy_out (by omega)]
      exact a3 i hi
  · by_cases e : i < n
    · rw [pk_cpy_out (Or.inl e)]
      exact a4 i e
    · rw [pk_cpy_in (by omega) (by omega)]
      exact ht (0 + (i - n)) (by omega)
/-- a literal -/
theorem s_lit {n m cap : Nat} {b txt : Nat → Int32} {at_ : Nat → Nat} (h : zSb n cap b) (hm : n + m ≤ 34) (ht : ∀ j : Nat, j < m → ∃ v : Nat, 32 ≤ v ∧ v ≤ 126 ∧ txt j = nI v) {post : Int32 → (Nat → Nat) → Nat → (Nat → Int32) → Prop} (hp : ∀ a cap' b', zSb (n + m) cap' b' → post (nI (n + m)) a cap' b') : wpJ4_append_15ec4_g m txt (nI n) at_ cap b post := by
  unfold wpJ4_append_15ec4_g wpJ5_append_cf1ce_g
  refine k_flen ?_
  rw [nI_add]
  refine s_ens h (by omega) hm (fun a cap' b' h' hq => ?_)
  have c34 : cap' ≤ 34 := by have := h'.2.1; omega
  unfold wpJ5_putStringAt_47b60 wpJ5_inflateIfNeededFor_a7421 wpJ0_getBytes_840e7 wpJ0_coder_7d493
  refine br_t rfl (br_m rfl ?_)
  rw [sb_shl0, nI_clamp (by omega), nI_clamp (by omega)]
  refine ⟨nI_pos (by omega), nI_pos (by omega), by omega, by omega, fun i hi => ?_, hp _ _ _ (zSb_c h' hq ht)⟩
  obtain ⟨v, h1, h2, h3⟩ := ht (0 + i) (by omega)
  rw [h3]
  exact z_fby (by omega)
/-- a text that was built before -/
theorem s_app {n m cap : Nat} {b txt : Nat → Int32} {at_ : Nat → Nat} (h : zSb n cap b) (hm : n + m ≤ 34) (ht : ∀ j : Nat, j < m → ∃ v : Nat, 32 ≤ v ∧ v ≤ 126 ∧ txt j = nI v) {post : Int32 → (Nat → Nat) → Nat → (Nat → Int32) → Prop} (hp : ∀ a cap' b', zSb (n + m) cap' b' → post (nI (n + m)) a cap' b') : wpJ4_append_15ec4_gw (nI n) at_ cap b m txt post := by
  unfold wpJ4_append_15ec4_gw wpJ5_append_cf1ce_gw wpJ0_length_8abf5_w wpJ0_coder_7d493_w
  dsimp only
  rw [sb_shr0, nI_add]
  refine s_ens h (by omega) hm (fun a cap' b' h' hq => ?_)
  have c34 : cap' ≤ 34 := by have := h'.2.1; omega
  unfold wpJ5_putStringAt_47b60_w wpJ5_inflateIfNeededFor_a7421_w wpJ0_getBytes_840e7_w wpJ0_coder_7d493_w
  refine br_t rfl (br_m rfl ?_)
  rw [sb_shl0, nI_clamp (by omega), nI_clamp (by omega), show (0 : Int32).toNatClampNeg = 0 from rfl]
  refine ⟨nI_pos (by omega), nI_pos (by omega), by omega, by omega, fun i hi => ?_, hp _ _ _ (zSb_c h' hq ht)⟩
  obtain ⟨v, h1, h2, h3⟩ := ht (0 + i) (by omega)
  rw [h3]
  exact z_fby (by omega)
/-- a number of two digits at most -/
theorem s_num {n v cap : Nat} {b : Nat → Int32} {at_ : Nat → Nat} (h : zSb n cap b) (hv : v < 100) (hm : n + 2 ≤ 34) {post : Int32 → (Nat → Nat) → Nat → (Nat → Int32) → Prop} (hp : ∀ k a cap' b', 1 ≤ k → k ≤ 2 → zSb (n + k) cap' b' → post (nI (n + k)) a cap' b') : wpJ4_append_bf812_g (nI v) (nI n) at_ cap b post := by
  unfold wpJ4_append_bf812_g wpJ5_append_c97b9_g
  have hd := (@zdl_le v)
  have hd2 := hd.2.2 hv
  refine k_size (by omega) ?_
  rw [nI_add]
  refine s_ens h (by omega) (by omega) (fun a cap' b' h' hq => ?_)
  have c34 : cap' ≤ 34 := by have := h'.2.1; omega
  unfold wpJ5_isLatin1_aae02
  refine br_f (by decide) ?_
  unfold wpJ6_getChars_ba4f3
  refine br_t (nI_pos' (by omega)) (br_m rfl ⟨2, ?_⟩)
  by_cases h1 : v < 10
  · have ed := zdl_1 h1
    rw [ed] at hq ⊢
    refine br_t (z_g1 v (by omega) (by omega)) ?_
    rw [z_g5 v (by omega), nI_clamp (by omega), pk_m1, nI_clamp (by omega)]
    refine ⟨vp_in_nI (by omega) (by omega), vp_in_nI (by omega) (by omega), br_t (z_g3 v (by omega) h1) ?_⟩
    unfold wpJ6_getChars_ba4f3_L104
    refine br_t rfl ?_
    rw [show gOnes v = nI (48 + v) by unfold gOnes; rw [Nat.mod_eq_of_lt h1], z_nby (by omega)]
    exact hp 1 _ _ _ (by omega) (by omega) (zSb_p h' (by omega) (by omega) (by omega))
  · have ed := zdl_2 h1 hv
    rw [ed] at hq ⊢
    refine br_t (z_g1 v (by omega) hv) ?_
    rw [z_g5 v (by omega), nI_clamp (by omega), show n + 2 = n + 1 + 1 from rfl, pk_m1, pk_m1, nI_clamp (by omega), nI_clamp (by omega)]
    refine ⟨vp_in_nI (by omega) (by omega), vp_in_nI (by omega) (by omega), br_f (z_g4 v (by omega) h1) ⟨vp_in_nI (by omega) (by omega), vp_in_nI (by omega) (by omega), ?_⟩⟩
    unfold wpJ6_getChars_ba4f3_L104
    refine br_t rfl ?_
    rw [show gOnes v = nI (48 + v % 10) from rfl, show gTens v = nI (48 + v / 10) from rfl, z_nby (by omega), z_nby (by omega)]
    exact hp 2 _ _ _ (by omega) (by omega) (zSb_2 h' (by omega) (by omega) (by omega) (by omega) (by omega))
/-- the builder's text -/
theorem s_str {n cap : Nat} {b : Nat → Int32} (h : zSb n cap b) {post : (Nat → Nat) → (Nat → Nat) → Nat → (Nat → Int32) → Prop} (hp : ∀ a at_ f1, (∀ j : Nat, j < n → ∃ v : Nat, 32 ≤ v ∧ v ≤ 126 ∧ f1 j = nI v) → post a at_ n f1) : wpS_str (nI n) cap b post := by
  obtain ⟨a1, a2, a3, a4⟩ := h
  refine ⟨n, rfl, a1, by omega, a3, fun a at_ f1 h1 => hp a at_ f1 (fun j hj => ?_)⟩
  obtain ⟨v, g1, g2, g3⟩ := a4 j hj
  exact ⟨v, g1, g2, (h1 j hj).trans g3⟩
theorem gTx_w : ∀ v : Nat, v < 18 → 9 ≤ v → gLen.getD v 0 ≤ 8 ∧ ∀ j : Nat, j < 8 → j < gLen.getD v 0 → 32 ≤ ((gByt.getD v []).getD j 0).toNatClampNeg ∧ ((gByt.getD v []).getD j 0).toNatClampNeg ≤ 126 ∧ (gByt.getD v []).getD j 0 = nI ((gByt.getD v []).getD j 0).toNatClampNeg := by decide +kernel
/-- one of the law's literals -/
theorem s_lw {n v cap : Nat} {b : Nat → Int32} {at_ : Nat → Nat} (h : zSb n cap b) (hv : v < 18) (h9 : 9 ≤ v) (hm : n + 8 ≤ 34) {post : Int32 → (Nat → Nat) → Nat → (Nat → Int32) → Prop} (hp : ∀ k a cap' b', k ≤ 8 → zSb (n + k) cap' b' → post (nI (n + k)) a cap' b') : wpJ4_append_15ec4_g (gLen.getD v 0) (fun j => (gByt.getD v []).getD j 0) (nI n) at_ cap b post := by
  obtain ⟨g1, g2⟩ := gTx_w v hv h9
  exact s_lit h (by omega) (fun j hj => ⟨_, (g2 j (by omega) hj).1, (g2 j (by omega) hj).2.1, (g2 j (by omega) hj).2.2⟩) (fun a cap' b' h' => hp _ a cap' b' g1 h')

/-- a sign is typed -/
theorem q_type {tb : Nat} {Z : (Nat → Nat) → Prop} {A : Nat → Nat} {c : Nat} {h : Nat → Nat → Nat} {n : Nat} {x : Nat → Nat} {V : DV} (hV : zS0 tb Z A c h n x V) (hn : n < 60) {k : Nat} (h1 : 32 ≤ k) (h2 : k ≤ 126) {post : Int32 → DV → Prop} (hp : ∀ V', zS0 tb Z A c h (n + 1) (zu x n k) V' → post (nI (n + 1)) V') : wpD_type (nI k) V post := by
  obtain ⟨⟨d1, d2, d3, w_reach, w_settled, d6⟩, ⟨t_time, t_store, t_rate, t_force, t_cleared, t_ploughed, t_failed, t_complained, s_lower, s_higher, s_kind, s_size, s_snow, s_saltEnd, s_complained, s_clearings, s_count, q_place, q_target, q_minutesLeft, q_waiting, q_orders, q_count⟩, F, S, ⟨h_free, h_count, R⟩, ⟨g1, g2, g3, b_mlt, b_countt, b_att, b_capt, b_bytest, b_mlo, b_counto, b_ato, b_capo, b_byteso⟩⟩ := V
  obtain ⟨hAt, hT, hH, hZ, ⟨hcap, hby, hn60, hnc, e1, hx⟩, hO⟩ := hV
  have e1 : b_countt = nI n := e1
  subst e1
  have hcap : b_capt = 16 ∨ b_capt = 34 ∨ b_capt = 70 := hcap
  have hby : ∀ i : Nat, i < b_capt → fits .byte (.int (b_bytest i)) = true := hby
  have hnc : n ≤ b_capt := hnc
  have hx : ∀ i : Nat, i < n → 32 ≤ x i ∧ x i ≤ 126 ∧ b_bytest i = nI (x i) := hx
  unfold wpD_type wpP_type wpX6_type
  dsimp only
  refine br_f (nI_nlt (b := 32) h1 (by omega)) (br_t (nI_le (b := 126) h2 (by omega)) ?_)
  refine br_t (nI_lt (b := 60) (by omega) (by omega)) ?_
  have hfin : ∀ (cap : Nat) (b : Nat → Int32) (G : GS), G.2.2.2.2.2.2.1 = cap → G.2.2.2.2.2.2.2.1 = upd b n (nI k) → G.2.2.2.2.1 = nI (n + 1) → (cap = 16 ∨ cap = 34 ∨ cap = 70) → n + 1 ≤ cap → (∀ i : Nat, i < cap → fits .byte (.int (b i)) = true) → (∀ i : Nat, i < n → b i = nI (x i)) → zTp (n + 1) (zu x n k) G := by
    intro cap b G g1 g2 g3 h1 h2 h3 h4
    unfold zTp
    rw [g1, g2, g3]
    refine ⟨h1, fun i hi => ?_, by omega, h2, rfl, fun i hi => ?_⟩
    · unfold upd
      split
      · exact z_fby (by omega)
      · exact h3 i hi
    · by_cases e : i = n
      · rw [e, zu_s, pk_us]
        exact ⟨by omega, by omega, rfl⟩
      · obtain ⟨a1, a2, a3⟩ := hx i (by omega)
        rw [zu_n e, pk_un e]
        exact ⟨a1, a2, h4 i (by omega)⟩
  unfold wpJ4_append_cf468_g wpJ5_append_3fe6f_g wpJ5_isLatin1_aae02 wpJ1_canEncode_fc78d
  refine ⟨n + 1, nI_1 n, by omega, by omega, hby, fun hq a => ?_, fun hq a => ?_⟩
  · refine br_f (by decide) (br_f (nI_nlt (a := 255) (by omega) (by omega)) (br_f (by decide) ⟨vp_in_nI (by omega) (by omega), ?_⟩))
    rw [nI_clamp (by omega), z_by8 k (by omega), z_nby (by omega), nI_1]
    exact hp _ ⟨hAt, hT, hH, hZ, hfin _ _ _ rfl rfl rfl hcap hq hby (fun i hi => (hx i hi).2.2), hO⟩
  · refine br_f (by decide) (br_f (nI_nlt (a := 255) (by omega) (by omega)) (br_f (by decide) ⟨vp_in_nI (by omega) (by omega), ?_⟩))
    rw [nI_clamp (by omega), z_by8 k (by omega), z_nby (by omega), nI_1]
    refine hp _ ⟨hAt, hT, hH, hZ, hfin (2 * b_capt + 2) (va_cpy b_bytest (fun _ => 0) 0 0 b_capt) _ rfl rfl rfl (by omega) (by omega) (fun i hi => ?_) (fun i hi => ?_), hO⟩
    · by_cases e : i < b_capt
      · rw [pk_cpy_in (Nat.zero_le _) (by omega), show 0 + (i - 0) = i by omega]
        exact hby i e
      · rw [pk_cpy_out (Or.inr (by omega))]
        rfl
    · rw [pk_cpy_in (Nat.zero_le _) (by omega), show 0 + (i - 0) = i by omega]
      exact (hx i hi).2.2
/-- a script runs: all of it, or nothing of it -/
theorem q_runScript {tb : Nat} {Z : (Nat → Nat) → Prop} {A : Nat → Nat} {c : Nat} {h : Nat → Nat → Nat} {n : Nat} {x : Nat → Nat} {V : DV} (htb : tb + 6000 < 2 ^ 29) (hV : zS0 tb Z A c h n x V) {post : Int32 → DV → Prop} (hK : ∀ r V', zRq tb Z A c h True (fun _ => True) r V' → post r V') : wpL_runScript V post := by
  obtain ⟨⟨d1, d2, d3, w_reach, w_settled, d6⟩, ⟨t_time, t_store, t_rate, t_force, t_cleared, t_ploughed, t_failed, t_complained, s_lower, s_higher, s_kind, s_size, s_snow, s_saltEnd, s_complained, s_clearings, s_count, q_place, q_target, q_minutesLeft, q_waiting, q_orders, q_count⟩, F, S, ⟨h_free, h_count, R⟩, ⟨g1, g2, g3, b_mlt, b_countt, b_att, b_capt, b_bytest, b_mlo, b_counto, b_ato, b_capo, b_byteso⟩⟩ := V
  obtain ⟨hAt, hT, ⟨f, hf, hc, e1, e2, hh⟩, hZ, ⟨hcap, hby, hn60, hncap, e3, hxx⟩, hO⟩ := hV
  have e1 : h_free = nI f := e1
  have e2 : h_count = nI c := e2
  have e3 : b_countt = nI n := e3
  subst e1 e2 e3
  have hT : zTc A t_time t_store t_rate t_force t_cleared t_ploughed t_failed t_complained s_lower s_higher s_kind s_size s_snow s_saltEnd s_complained s_clearings s_count q_place q_target q_minutesLeft q_waiting q_orders q_count := hT
  have hh : zHs tb f c h R := hh
  have hcap : b_capt = 16 ∨ b_capt = 34 ∨ b_capt = 70 := hcap
  have hby : ∀ i : Nat, i < b_capt → fits .byte (.int (b_bytest i)) = true := hby
  have hncap : n ≤ b_capt := hncap
  have hxx : ∀ i : Nat, i < n → 32 ≤ x i ∧ x i ≤ 126 ∧ b_bytest i = nI (x i) := hxx
  have hX : zSX n b_capt b_bytest x := ⟨hn60, hncap, by omega, hxx⟩
  have hs := zsg_lt hX
  have hP0 : ∀ (a1 : Nat → Int32) (a2 a3 m : Int32), zTp 0 (fun _ => 0) (a1, a2, a3, m, nI 0, b_att, b_capt, b_bytest, b_mlo, b_counto, b_ato, b_capo, b_byteso) := fun _ _ _ _ => ⟨hcap, hby, by omega, by omega, rfl, fun i hi => absurd hi (Nat.not_lt_zero i)⟩
  have hO : ∀ (a1 : Nat → Int32) (a2 a3 m : Int32), zOo (a1, a2, a3, m, nI 0, b_att, b_capt, b_bytest, b_mlo, b_counto, b_ato, b_capo, b_byteso) := fun _ _ _ _ => hO
  obtain ⟨q, hq, hE⟩ := zEnd_x hs hn60
  have hcap2 : b_capt < 2 ^ 30 := by omega
  unfold wpL_runScript wpP_runScript wpX6_runScript wpX3_countCommands
  dsimp only
  refine ⟨q + 1, k_cntL hX hq hE (fun g en cv vb => br_t (nI_pos' (by omega)) ?_) (fun g en cv vb => br_f (by decide) (k_set0 hncap hcap2 (fun ml => Or.inl ⟨rfl, ?_⟩))) (fun g cv vb => br_f (by decide) (k_set0 hncap hcap2 (fun ml => Or.inl ⟨rfl, ?_⟩))) q 0 (Nat.zero_add q) g1 g3⟩
  · refine k_write hT hf (fun R1 hR hRf => ⟨q + 1 + 1, ?_⟩)
    refine k_L66 hT (by omega) hX hq hE g (m_s := fun k => nI (A k)) (fun k _ => rfl) (y0 := (0, (fun _ => 0), (fun _ => 0))) (fun B u w cv2 at2 vb2 hB hB0 hrc hgo => k_push hf hc (k_set0 hncap hcap2 (fun ml => ?_))) (fun j u w cv2 at2 vb2 hj hfc => k_read hf hRf (fun v1 v2 v3 v4 v5 v6 v7 v8 v9 v10 v11 v12 v13 v14 v15 v16 v17 v18 v19 v20 v21 v22 v23 hv => k_set0 hncap hcap2 (fun ml => Or.inr ⟨rfl, ?_⟩)))
    · obtain ⟨h', hh', htop⟩ := zHs_p hf hc (Nat.le_add_right tb 6000) hh hR hRf (by omega)
      exact hK _ _ (Or.inr ⟨q + 1, B, _, h', rfl, ⟨by omega, hgo⟩, trivial, by split <;> omega, htop, by omega, hB, ⟨(f + 1) % 9, by omega, by split <;> omega, rfl, rfl, hh'⟩, hZ, hP0 _ _ _ _, hO _ _ _ _⟩)
    · exact hK _ _ (Or.inl ⟨Or.inr (Or.inl rfl), trivial, hAt, hv, ⟨f, hf, hc, rfl, rfl, zHs_w hf hc (Nat.le_refl _) hh hR⟩, hZ, hP0 _ _ _ _, hO _ _ _ _⟩)
  · exact hK _ _ (Or.inl ⟨Or.inl rfl, trivial, hAt, hT, ⟨f, hf, hc, rfl, rfl, hh⟩, hZ, hP0 _ _ _ _, hO _ _ _ _⟩)
  · exact hK _ _ (Or.inl ⟨Or.inl rfl, trivial, hAt, hT, ⟨f, hf, hc, rfl, rfl, hh⟩, hZ, hP0 _ _ _ _, hO _ _ _ _⟩)
/-- a loop with a bound on its turns -/
theorem pk_loopB {σ : Type} (W : Nat → Nat → σ → Prop) (I : Nat → σ → Prop) (e i0 : Nat) (s : σ) (hi : i0 ≤ e) {M : Nat} (hM : e + 1 ≤ M) (h0 : I i0 s) (hx : ∀ n s, I e s → W (n + 1) e s) (hs : ∀ n i s, i < e → I i s → (∀ s', I (i + 1) s' → W n (i + 1) s') → W (n + 1) i s) : ∃ n, n ≤ M ∧ W n i0 s := by
  have key : ∀ (d i : Nat) (s : σ), i + d = e → I i s → W (d + 1) i s := by
    intro d
    induction d with
    | zero =>
      intro i s h1 h2
      have ei : i = e := by omega
      subst ei
      exact hx 0 s h2
    | succ d ih =>
      intro i s h1 h2
      exact hs (d + 1) i s (by omega) h2 (fun s' h3 => ih (i + 1) s' (by omega) h3)
  exact ⟨e - i0 + 1, by omega, key (e - i0) i0 s (by omega) h0⟩
/-- a text is typed and run -/
theorem q_does {tb : Nat} {Z : (Nat → Nat) → Prop} {A : Nat → Nat} {c : Nat} {h : Nat → Nat → Nat} {V : DV} (htb : tb + 6000 < 2 ^ 29) (hV : zST tb Z A c h V) {m : Nat} {txt : Nat → Int32} (hm : m ≤ 40) (ht : ∀ j : Nat, j < m → ∃ v : Nat, 32 ≤ v ∧ v ≤ 126 ∧ txt j = nI v) {post : Int32 → DV → Prop} (hK : ∀ r V', zRq tb Z A c h True (fun _ => True) r V' → post r V') : wpL_does V m txt post := by
  unfold wpL_does
  refine pk_loopB (σ := Nat × DV) (fun n i s => wpL_does_L4 m txt post n (nI s.1) (nI i) s.2) (fun i s => s.1 ≤ 60 * i ∧ ∃ x, zS0 tb Z A c h i x s.2) m 0 (0, V) (Nat.zero_le _) (by omega) ⟨by omega, _, hV⟩ ?_ ?_
  · rintro n ⟨s, W⟩ ⟨hs, x, hW⟩
    dsimp only at hs hW
    show wpL_does_L4 m txt post (n + 1) (nI s) (nI m) W
    unfold wpL_does_L4 wpJ0_length_8abf5_w wpJ0_coder_7d493_w
    dsimp only
    rw [sb_shr0]
    exact br_t (nI_le (Nat.le_refl _) (by omega)) (br_t (nI_pos' (by omega)) (q_runScript htb hW hK))
  · rintro n i ⟨s, W⟩ hi ⟨hs, x, hW⟩ ih
    dsimp only at hs hW
    obtain ⟨v, h1, h2, h3⟩ := ht i hi
    show wpL_does_L4 m txt post (n + 1) (nI s) (nI i) W
    unfold wpL_does_L4 wpJ0_length_8abf5_w wpJ0_coder_7d493_w
    dsimp only
    rw [sb_shr0]
    refine br_f (nI_ge hi (by omega)) ?_
    unfold wpJ0_charAt_5068e_w wpJ0_isLatin1_aae02_w wpJ1_charAt_3b067_w wpJ0_checkIndex_df160 wpJ3_checkIndex_8e157
    refine br_f (by decide) (br_f (nI_pos (by omega)) (br_t (nI_lt hi (by omega)) ?_))
    rw [nI_clamp (by omega), h3, z_bc v (by omega)]
    refine ⟨vp_in_nI hi (by omega), (pk_charN (by omega)).1, (pk_charN (by omega)).1, q_type hW (by omega) h1 h2 (fun V' hV' => ?_)⟩
    rw [nI_add, nI_1]
    exact ih (s + (i + 1), V') ⟨by dsimp only; omega, _, hV'⟩
