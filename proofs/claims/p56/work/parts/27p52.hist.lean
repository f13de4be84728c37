/-! copies of towns; the ring -/
theorem va_c {f g : Nat → Int32} {N i : Nat} (h : i < N) : va_cpy f g (0 : Int32).toNatClampNeg (0 : Int32).toNatClampNeg N i = f i := by
  have e : va_cpy f g 0 0 N i = f (0 + (i - 0)) := pk_cpy_in (Nat.zero_le i) (by omega)
  rw [Nat.zero_add, Nat.sub_zero] at e
  exact e
theorem zL_cpy {f g : Nat → Int32} {n N : Nat} {a : Nat → Nat} (h : zL f n a) (hn : n ≤ N) : zL (va_cpy f g (0 : Int32).toNatClampNeg (0 : Int32).toNatClampNeg N) n a := fun i hi => by
  rw [va_c (by omega)]
  exact h i hi
theorem z_copy {A : Nat → Nat} {t_time t_store t_rate t_force t_cleared t_ploughed t_failed t_complained : Int32} {s_lower s_higher s_kind s_size s_snow s_saltEnd s_complained s_clearings : Nat → Int32} {s_count : Int32} {q_place q_target q_minutesLeft q_waiting q_orders : Nat → Int32} {q_count : Int32} {t_timeo t_storeo t_rateo t_forceo t_clearedo t_ploughedo t_failedo t_complainedo : Int32} {s_lowero s_highero s_kindo s_sizeo s_snowo s_saltEndo s_complainedo s_clearingso : Nat → Int32} {s_counto : Int32} {q_placeo q_targeto q_minutesLefto q_waitingo q_orderso : Nat → Int32} {q_counto : Int32} (hT : zTc A t_timeo t_storeo t_rateo t_forceo t_clearedo t_ploughedo t_failedo t_complainedo s_lowero s_highero s_kindo s_sizeo s_snowo s_saltEndo s_complainedo s_clearingso s_counto q_placeo q_targeto q_minutesLefto q_waitingo q_orderso q_counto) {post : Int32 → Int32 → Int32 → Int32 → Int32 → Int32 → Int32 → Int32 → (Nat → Int32) → (Nat → Int32) → (Nat → Int32) → (Nat → Int32) → (Nat → Int32) → (Nat → Int32) → (Nat → Int32) → (Nat → Int32) → Int32 → (Nat → Int32) → (Nat → Int32) → (Nat → Int32) → (Nat → Int32) → (Nat → Int32) → Int32 → Prop}
    (h : ∀ u1 u2 u3 u4 u5 u6 u7 u8 u9 u10 u11 u12 u13 u14 u15 u16 u17 u18 u19 u20 u21 u22 u23, zTc A u1 u2 u3 u4 u5 u6 u7 u8 u9 u10 u11 u12 u13 u14 u15 u16 u17 u18 u19 u20 u21 u22 u23 → (∀ C : Nat → Nat, zL s_clearingso (A 1) C → zL u16 (A 1) C) → post u1 u2 u3 u4 u5 u6 u7 u8 u9 u10 u11 u12 u13 u14 u15 u16 u17 u18 u19 u20 u21 u22 u23) : wpX5_copyFrom t_time t_store t_rate t_force t_cleared t_ploughed t_failed t_complained s_lower s_higher s_kind s_size s_snow s_saltEnd s_complained s_clearings s_count q_place q_target q_minutesLeft q_waiting q_orders q_count t_timeo t_storeo t_rateo t_forceo t_clearedo t_ploughedo t_failedo t_complainedo s_lowero s_highero s_kindo s_sizeo s_snowo s_saltEndo s_complainedo s_clearingso s_counto q_placeo q_targeto q_minutesLefto q_waitingo q_orderso q_counto post := by
  obtain ⟨hI, hTt, ⟨s0, hl, hh, hk, hz, hsn, hse, hco⟩, ⟨p0, q1, q2, q3, q4, q5⟩, hK, C, hC, hC4⟩ := hT
  have hA := hI.1
  unfold wpX5_copyFrom wpX4_copyFrom wpX2_copyFrom
  have h12 : A 1 ≤ (12 : Int32).toNatClampNeg := hA.1
  have h4 : A 2 ≤ (4 : Int32).toNatClampNeg := hA.2.1
  refine ⟨fun i hi => ?_, h _ _ _ _ _ _ _ _ _ _ _ _ _ _ _ _ _ _ _ _ _ _ _ ⟨hI, hTt, ⟨s0, zL_cpy hl h12, zL_cpy hh h12, zL_cpy hk h12, zL_cpy hz h12, zL_cpy hsn h12, zL_cpy hse h12, zL_cpy hco h12⟩, ⟨p0, zL_cpy q1 h4, fun j hj hb => ?_, zL_cpy q3 h4, zL_cpy q4 h4, fun j hj k hk => ?_⟩, fun i hi => ?_, C, zL_cpy hC h12, hC4⟩ (fun C' hC' => zL_cpy hC' h12)⟩
  · rw [show (0 : Int32).toNatClampNeg + i = i from Nat.zero_add i]
    exact hK i hi
  · rw [va_c (Nat.lt_of_lt_of_le hj h4)]
    exact q2 j hj hb
  · have h5 := (zI_pl hI hj).2.2.2.1
    rw [va_c (show 5 * j + k < (20 : Int32).toNatClampNeg from (by omega : 5 * j + k < 20))]
    exact q5 j hj k hk
  · rw [va_c (show i < (12 : Int32).toNatClampNeg from hi)]
    exact hK i hi
theorem k_write {A : Nat → Nat} {t_time t_store t_rate t_force t_cleared t_ploughed t_failed t_complained : Int32} {s_lower s_higher s_kind s_size s_snow s_saltEnd s_complained s_clearings : Nat → Int32} {s_count : Int32} {q_place q_target q_minutesLeft q_waiting q_orders : Nat → Int32} {q_count : Int32} (hT : zTc A t_time t_store t_rate t_force t_cleared t_ploughed t_failed t_complained s_lower s_higher s_kind s_size s_snow s_saltEnd s_complained s_clearings s_count q_place q_target q_minutesLeft q_waiting q_orders q_count) {f : Nat} (hf : f < 9) {R : Nat → TT} {post : (Nat → TT) → Prop} (h : ∀ R' : Nat → TT, (∀ j, j ≠ f → R' j = R j) → zTT A (R' f) → post R') : wpX0_write (nI f) R t_time t_store t_rate t_force t_cleared t_ploughed t_failed t_complained s_lower s_higher s_kind s_size s_snow s_saltEnd s_complained s_clearings s_count q_place q_target q_minutesLeft q_waiting q_orders q_count post := by
  unfold wpX0_write
  refine ⟨f, hf, rfl, z_copy hT (fun u1 u2 u3 u4 u5 u6 u7 u8 u9 u10 u11 u12 u13 u14 u15 u16 u17 u18 u19 u20 u21 u22 u23 hu _ => h _ (fun j hj => if_neg hj) ?_)⟩
  rw [show va_up R f (u1, u2, u3, u4, u5, u6, u7, u8, u9, u10, u11, u12, u13, u14, u15, u16, u17, u18, u19, u20, u21, u22, u23) f = (u1, u2, u3, u4, u5, u6, u7, u8, u9, u10, u11, u12, u13, u14, u15, u16, u17, u18, u19, u20, u21, u22, u23) from if_pos rfl]
  exact hu
theorem k_read {A : Nat → Nat} {t_time t_store t_rate t_force t_cleared t_ploughed t_failed t_complained : Int32} {s_lower s_higher s_kind s_size s_snow s_saltEnd s_complained s_clearings : Nat → Int32} {s_count : Int32} {q_place q_target q_minutesLeft q_waiting q_orders : Nat → Int32} {q_count : Int32} {f : Nat} (hf : f < 9) {R : Nat → TT} (hT : zTT A (R f)) {post : Int32 → Int32 → Int32 → Int32 → Int32 → Int32 → Int32 → Int32 → (Nat → Int32) → (Nat → Int32) → (Nat → Int32) → (Nat → Int32) → (Nat → Int32) → (Nat → Int32) → (Nat → Int32) → (Nat → Int32) → Int32 → (Nat → Int32) → (Nat → Int32) → (Nat → Int32) → (Nat → Int32) → (Nat → Int32) → Int32 → Prop} (h : ∀ u1 u2 u3 u4 u5 u6 u7 u8 u9 u10 u11 u12 u13 u14 u15 u16 u17 u18 u19 u20 u21 u22 u23, zTc A u1 u2 u3 u4 u5 u6 u7 u8 u9 u10 u11 u12 u13 u14 u15 u16 u17 u18 u19 u20 u21 u22 u23 → post u1 u2 u3 u4 u5 u6 u7 u8 u9 u10 u11 u12 u13 u14 u15 u16 u17 u18 u19 u20 u21 u22 u23) : wpX0_read (nI f) R t_time t_store t_rate t_force t_cleared t_ploughed t_failed t_complained s_lower s_higher s_kind s_size s_snow s_saltEnd s_complained s_clearings s_count q_place q_target q_minutesLeft q_waiting q_orders q_count post := by
  unfold wpX0_read
  exact ⟨f, hf, rfl, z_copy hT (fun u1 u2 u3 u4 u5 u6 u7 u8 u9 u10 u11 u12 u13 u14 u15 u16 u17 u18 u19 u20 u21 u22 u23 hu _ => h u1 u2 u3 u4 u5 u6 u7 u8 u9 u10 u11 u12 u13 u14 u15 u16 u17 u18 u19 u20 u21 u22 u23 hu)⟩
/-- what the ring and the reference's row of past towns hold -/
def zHr (tb f c : Nat) (h : Nat → Nat → Nat) (R : Nat → TT) (past : Nat → Int32) : Prop :=
  ∀ i : Nat, i < c → h i 0 ≤ tb ∧ zTT (h i) (R ((f + (9 - c) + i) % 9)) ∧ ∀ k : Nat, k < 130 → past (130 * i + k) = nI (h i k)
def zHi (tb : Nat) (h_free h_count : Int32) (R : Nat → TT) (m_changes : Int32) (m_past : Nat → Int32) : Prop :=
  ∃ (f c : Nat) (h : Nat → Nat → Nat), f < 9 ∧ c ≤ 8 ∧ h_free = nI f ∧ h_count = nI c ∧ m_changes = nI c ∧ zHr tb f c h R m_past
theorem zHr_w {tb tb' f c : Nat} {h : Nat → Nat → Nat} {R R' : Nat → TT} {past : Nat → Int32} (hf : f < 9) (hc : c ≤ 8) (htb : tb ≤ tb') (hh : zHr tb f c h R past) (hR : ∀ j, j ≠ f → R' j = R j) : zHr tb' f c h R' past := by
  intro i hi
  obtain ⟨a, b, d⟩ := hh i hi
  rw [hR _ (by omega)]
  exact ⟨by omega, b, d⟩
theorem zHi_w {tb tb' f c : Nat} {h : Nat → Nat → Nat} {R R' : Nat → TT} {past : Nat → Int32} (hf : f < 9) (hc : c ≤ 8) (htb : tb ≤ tb') (hh : zHr tb f c h R past) (hR : ∀ j, j ≠ f → R' j = R j) : zHi tb' (nI f) (nI c) R' (nI c) past :=
  ⟨f, c, h, hf, hc, rfl, rfl, rfl, zHr_w hf hc htb hh hR⟩
theorem k_push {f c : Nat} (hf : f < 9) (hc : c ≤ 8) {post : Int32 → Int32 → Prop} (h : post (nI ((f + 1) % 9)) (nI (if 8 < c + 1 then 8 else c + 1))) : wpX0_push (nI f) (nI c) post := by
  unfold wpX0_push
  rw [nI_1, nI_1, show nI (f + 1) - nI (f + 1) / 9 * 9 = nI ((f + 1) % 9) from pk_rem (d := 9) (by omega) (by omega) (by omega)]
  have e : (if (8 : Int32) < nI (c + 1) then 8 else nI (c + 1)) = nI (if 8 < c + 1 then 8 else c + 1) := by
    by_cases q : 8 < c + 1
    · rw [if_pos q]
      exact if_pos (nI_lt (a := 8) q (by omega))
    · rw [if_neg q]
      exact if_neg (nI_nlt (a := 8) (b := c + 1) (by omega) (by omega))
  rw [e]
  exact h
theorem m_keeps {A : Nat → Nat} {m was : Nat → Int32} (hM : zM A m) {thr : Int32} {post : Int32 → (Nat → Int32) → Prop} (h : ∀ was', zM A was' → post 0 was') : wpX7_keeps thr m was post := by
  unfold wpX7_keeps
  refine m_copies (a := 0) (b := 0) (by omega) (by omega) (by omega) (by omega) rfl rfl (fun f h1 _ => h f (fun k hk => ?_))
  have := h1 k hk
  rw [Nat.zero_add] at this
  rw [this, hM k hk]
theorem m_ends0 {r ch k : Int32} {was past : Nat → Int32} {post : Int32 → Int32 → (Nat → Int32) → Prop} (hk : ¬ k = 0) (h : post 0 ch past) : wpX7_ends r ch k was past post := by
  unfold wpX7_ends
  exact br_f hk h
theorem m_e65 {A : Nat → Nat} {c : Nat} (hc : c < 8) {was past : Nat → Int32} (hW : zM A was) {r thr : Int32} {post : Int32 → Int32 → (Nat → Int32) → Prop} (h : ∀ p, (∀ k : Nat, k < 130 → p (130 * c + k) = nI (A k)) → (∀ j, (j < 130 * c ∨ 130 * c + 130 ≤ j) → p j = past j) → post r (nI (c + 1)) p) : wpX7_ends_L65 r thr was post (nI c) past := by
  unfold wpX7_ends_L65
  refine m_copies (a := 0) (b := 130 * c) (by omega) (by omega) (by omega) (by omega) rfl (by rw [show (130 : Int32) = nI 130 from rfl, pk_mul]) (fun p h1 h2 => ?_)
  rw [nI_1]
  refine h p (fun k hk => ?_) h2
  rw [h1 k hk, Nat.zero_add, hW k hk]
theorem m_ends {tb f c : Nat} {h : Nat → Nat → Nat} {R : Nat → TT} {past was : Nat → Int32} {A : Nat → Nat} (hf : f < 9) (hc : c ≤ 8) (hh : zHr tb f c h R past) (hA : A 0 ≤ tb) (hR : zTT A (R f)) (hW : zM A was) {r : Int32} {post : Int32 → Int32 → (Nat → Int32) → Prop} (hp : ∀ ch p, zHi tb (nI ((f + 1) % 9)) (nI (if 8 < c + 1 then 8 else c + 1)) R ch p → post r ch p) : wpX7_ends r (nI c) 0 was past post := by
  unfold wpX7_ends
  refine br_t rfl ?_
  by_cases e8 : c = 8
  · subst e8
    refine br_m rfl ?_
    refine pk_loop (fun n i p => wpX7_ends_L20 r 0 was (nI 8) post n (nI i) p) (fun x p => 1 ≤ x ∧ ∀ k : Nat, k < 130 → (∀ i, i + 1 < x → p (130 * i + k) = nI (h (i + 1) k)) ∧ ∀ i : Nat, x ≤ i → i < 8 → p (130 * i + k) = nI (h i k)) 8 1 past (by omega) ⟨Nat.le_refl _, fun k hk => ⟨fun i hi => absurd hi (by omega), fun i _ hi => (hh i hi).2.2 k hk⟩⟩ ?_ ?_
    · rintro n p ⟨-, hpp⟩
      refine br_t (nI_le (b := 8) (Nat.le_refl _) (by omega)) ?_
      rw [show nI 8 - 1 = nI 7 from pk_sub (a := 8) (b := 1) (by omega)]
      refine m_e65 (by omega) hW (fun p' h1 h2 => hp _ _ ⟨(f + 1) % 9, 8, fun i => if i = 7 then A else h (i + 1), by omega, by omega, rfl, rfl, rfl, fun i hi => ?_⟩)
      dsimp only
      by_cases e : i = 7
      · subst e
        rw [if_pos rfl, show ((f + 1) % 9 + (9 - 8) + 7) % 9 = f by omega]
        exact ⟨hA, hR, fun k hk => h1 k hk⟩
      · rw [if_neg e, show ((f + 1) % 9 + (9 - 8) + i) % 9 = (f + (9 - 8) + (i + 1)) % 9 by omega]
        obtain ⟨a, b, -⟩ := hh (i + 1) (by omega)
        refine ⟨a, b, fun k hk => ?_⟩
        rw [h2 _ (by omega)]
        exact (hpp k hk).1 i (by omega)
    · rintro n x p hx ⟨hx1, hpp⟩ ih
      refine br_f (nI_ge (b := 8) hx (by omega)) ?_
      rw [show nI x - 1 = nI (x - 1) from pk_sub (b := 1) (by omega), nI_1]
      refine m_copiesS (a := 130 * x) (b := 130 * (x - 1)) (by omega) (by omega) (by omega) (by rw [show (130 : Int32) = nI 130 from rfl, pk_mul]) (by rw [show (130 : Int32) = nI 130 from rfl, pk_mul]) (fun p' h1 h2 => ih p' ⟨by omega, fun k hk => ⟨fun i hi => ?_, fun i h3 h4 => ?_⟩⟩)
      · by_cases e : i + 1 = x
        · subst e
          have := h1 k hk
          rw [Nat.add_sub_cancel] at this
          rw [this]
          exact (hpp k hk).2 (i + 1) (Nat.le_refl _) hx
        · rw [h2 _ (by omega)]
          exact (hpp k hk).1 i (by omega)
      · rw [h2 _ (by omega)]
        exact (hpp k hk).2 i (by omega) h4
  · refine br_n (fun q => e8 ((nI_eq (a := c) (b := 8) (by omega) (by omega)).mp q)) ?_
    refine m_e65 (by omega) hW (fun p' h1 h2 => hp _ _ ⟨(f + 1) % 9, c + 1, fun i => if i = c then A else h i, by omega, by omega, rfl, by rw [if_neg (by omega)], rfl, fun i hi => ?_⟩)
    dsimp only
    by_cases e : i = c
    · subst e
      rw [if_pos rfl, show ((f + 1) % 9 + (9 - (i + 1)) + i) % 9 = f by omega]
      exact ⟨hA, hR, fun k hk => h1 k hk⟩
    · rw [if_neg e, show ((f + 1) % 9 + (9 - (c + 1)) + i) % 9 = (f + (9 - c) + i) % 9 by omega]
      obtain ⟨a, b, d⟩ := hh i (by omega)
      refine ⟨a, b, fun k hk => ?_⟩
      rw [h2 _ (by omega)]
      exact d k hk
/-! what holds between the calls -/
def zTo (tb : Nat) (t_time : Int32) (t_store : Int32) (t_rate : Int32) (t_force : Int32) (t_cleared : Int32) (t_ploughed : Int32) (t_failed : Int32) (t_complained : Int32) (s_lower : Nat → Int32) (s_higher : Nat → Int32) (s_kind : Nat → Int32) (s_size : Nat → Int32) (s_snow : Nat → Int32) (s_saltEnd : Nat → Int32) (s_complained : Nat → Int32) (s_clearings : Nat → Int32) (s_count : Int32) (q_place : Nat → Int32) (q_target : Nat → Int32) (q_minutesLeft : Nat → Int32) (q_waiting : Nat → Int32) (q_orders : Nat → Int32) (q_count : Int32) (m_s : Nat → Int32) : Prop := ∃ A : Nat → Nat, A 0 ≤ tb ∧ zTc A t_time t_store t_rate t_force t_cleared t_ploughed t_failed t_complained s_lower s_higher s_kind s_size s_snow s_saltEnd s_complained s_clearings s_count q_place q_target q_minutesLeft q_waiting q_orders q_count ∧ zM A m_s
def zSv (tb : Nat) (d_saved : Int32) (t_time : Int32) (t_store : Int32) (t_rate : Int32) (t_force : Int32) (t_cleared : Int32) (t_ploughed : Int32) (t_failed : Int32) (t_complained : Int32) (s_lower : Nat → Int32) (s_higher : Nat → Int32) (s_kind : Nat → Int32) (s_size : Nat → Int32) (s_snow : Nat → Int32) (s_saltEnd : Nat → Int32) (s_complained : Nat → Int32) (s_clearings : Nat → Int32) (s_count : Int32) (q_place : Nat → Int32) (q_target : Nat → Int32) (q_minutesLeft : Nat → Int32) (q_waiting : Nat → Int32) (q_orders : Nat → Int32) (q_count : Int32) (m_isSaved : Int32) (m_saved : Nat → Int32) : Prop := (d_saved = 0 ∧ m_isSaved = 0) ∨ (d_saved = 1 ∧ m_isSaved = 1 ∧ zTo tb t_time t_store t_rate t_force t_cleared t_ploughed t_failed t_complained s_lower s_higher s_kind s_size s_snow s_saltEnd s_complained s_clearings s_count q_place q_target q_minutesLeft q_waiting q_orders q_count m_saved)
def zEr (d_wrongPosition d_refusedCommand m_errorAt m_failedAt : Int32) : Prop := d_wrongPosition = m_errorAt ∧ d_refusedCommand = m_failedAt
/-- the output: what has been appended, as bytes -/
def zOu (b_counto : Int32) (b_capo : Nat) (b_byteso : Nat → Int32) (m_lined : Int32) (m_line : Nat → Int32) : Prop :=
  b_capo = 16 ∧ ∃ (n : Nat) (x : Nat → Nat), n ≤ 16 ∧ b_counto = nI n ∧ m_lined = nI n ∧ ∀ i : Nat, i < n → x i < 128 ∧ b_byteso i = nI (x i) ∧ m_line i = nI (x i)
/-- the script: what has been typed -/
def zSc (b_countt : Int32) (b_capt : Nat) (b_bytest : Nat → Int32) (m_taped : Int32) (m_tape : Nat → Int32) : Prop :=
  (b_capt = 16 ∨ b_capt = 34 ∨ b_capt = 70) ∧ (∀ i : Nat, i < b_capt → fits .byte (.int (b_bytest i)) = true) ∧ ∃ (n : Nat) (x : Nat → Nat), n ≤ 60 ∧ n ≤ b_capt ∧ b_countt = nI n ∧ m_taped = nI n ∧ ∀ i : Nat, i < n → 32 ≤ x i ∧ x i ≤ 126 ∧ b_bytest i = nI (x i) ∧ m_tape i = nI (x i)
theorem zTo_mono {tb tb' : Nat} (h : tb ≤ tb') {t_time t_store t_rate t_force t_cleared t_ploughed t_failed t_complained : Int32} {s_lower s_higher s_kind s_size s_snow s_saltEnd s_complained s_clearings : Nat → Int32} {s_count : Int32} {q_place q_target q_minutesLeft q_waiting q_orders : Nat → Int32} {q_count : Int32} {m_s : Nat → Int32} (hT : zTo tb t_time t_store t_rate t_force t_cleared t_ploughed t_failed t_complained s_lower s_higher s_kind s_size s_snow s_saltEnd s_complained s_clearings s_count q_place q_target q_minutesLeft q_waiting q_orders q_count m_s) : zTo tb' t_time t_store t_rate t_force t_cleared t_ploughed t_failed t_complained s_lower s_higher s_kind s_size s_snow s_saltEnd s_complained s_clearings s_count q_place q_target q_minutesLeft q_waiting q_orders q_count m_s := by
  obtain ⟨A, a, b, c⟩ := hT
  exact ⟨A, by omega, b, c⟩
theorem zHi_mono {tb tb' : Nat} (h : tb ≤ tb') {h_free h_count : Int32} {R : Nat → TT} {m_changes : Int32} {m_past : Nat → Int32} (hH : zHi tb h_free h_count R m_changes m_past) : zHi tb' h_free h_count R m_changes m_past := by
  obtain ⟨f, c, hs, hf, hc, e1, e2, e3, hh⟩ := hH
  exact ⟨f, c, hs, hf, hc, e1, e2, e3, zHr_w hf hc h hh (fun _ _ => rfl)⟩
theorem zSv_mono {tb tb' : Nat} (h : tb ≤ tb') {d_saved : Int32} {t_time t_store t_rate t_force t_cleared t_ploughed t_failed t_complained : Int32} {s_lower s_higher s_kind s_size s_snow s_saltEnd s_complained s_clearings : Nat → Int32} {s_count : Int32} {q_place q_target q_minutesLeft q_waiting q_orders : Nat → Int32} {q_count : Int32} {m_isSaved : Int32} {m_saved : Nat → Int32} (hS : zSv tb d_saved t_time t_store t_rate t_force t_cleared t_ploughed t_failed t_complained s_lower s_higher s_kind s_size s_snow s_saltEnd s_complained s_clearings s_count q_place q_target q_minutesLeft q_waiting q_orders q_count m_isSaved m_saved) : zSv tb' d_saved t_time t_store t_rate t_force t_cleared t_ploughed t_failed t_complained s_lower s_higher s_kind s_size s_snow s_saltEnd s_complained s_clearings s_count q_place q_target q_minutesLeft q_waiting q_orders q_count m_isSaved m_saved := by
  rcases hS with a | ⟨a, b, c⟩
  · exact Or.inl a
  · exact Or.inr ⟨a, b, zTo_mono h c⟩
/-- no number is below 0 -/
theorem z_neg {r : Nat} (h : r < 2 ^ 30) {x : Int32} (hx : x < 0) : ¬ nI r = x := fun e => absurd hx (by rw [← e]; exact nI_pos (by omega))
theorem z_cmp {o : Nat → Int64} {x : Int64} : lg_cmp (vp_updL o (0 : Int32).toNatClampNeg x (0 : Int32).toNatClampNeg) x = 0 := by
  rw [pk_uLs]
  exact (lg_cmp_eq x x).mpr rfl

