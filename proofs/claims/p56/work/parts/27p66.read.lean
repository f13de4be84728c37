/-! scripts: the reference's reader -/
def zMX (n : Nat) (tp : Nat → Int32) (x : Nat → Nat) : Prop := n ≤ 60 ∧ ∀ i : Nat, i < n → 32 ≤ x i ∧ x i ≤ 126 ∧ tp i = nI (x i)
theorem zsg_ltM {n : Nat} {tp : Nat → Int32} {x : Nat → Nat} (h : zMX n tp x) (a : Nat) : zsg n x a < 128 := by
  unfold zsg
  split
  · have := h.2 a (by assumption)
    omega
  · omega
/-- the sign, -1 behind the end -/
theorem k_msg {n : Nat} {tp : Nat → Int32} {x : Nat → Nat} (h : zMX n tp x) {a : Nat} (ha : a < 1000) {post : Int32 → Prop} (h1 : a < n → post (nI (x a))) (h0 : ¬ a < n → post (-1)) : wpX7_sign (nI n) (nI a) tp post := by
  have h60 := h.1
  unfold wpX7_sign
  by_cases e : a < n
  · refine br_f (nI_ge e (by omega)) ⟨vp_in_nI (by omega) (by omega), ?_⟩
    rw [nI_clamp (by omega), (h.2 a e).2.2]
    exact h1 e
  · exact br_t (nI_le (by omega) (by omega)) (h0 e)
theorem k_mis {n : Nat} {tp : Nat → Int32} {x : Nat → Nat} (h : zMX n tp x) {a w : Nat} (ha : a < 1000) (hw : w < 128) (hw0 : 0 < w) {post : Int32 → Int32 → Prop} (h1 : zsg n x a = w → post 1 (nI (a + 1))) (h0 : zsg n x a ≠ w → post 0 (nI a)) : wpX7_isSign (nI w) (nI n) (nI a) tp post := by
  unfold wpX7_isSign wpX7_isSign_L13
  refine k_msg h ha (fun e => ?_) (fun e => ?_)
  · have hx := h.2 a e
    have ez : zsg n x a = x a := if_pos e
    rw [ez] at h1 h0
    by_cases q : x a = w
    · refine br_m (by rw [q]) (br_f (by decide) ⟨m_nb1, ?_⟩)
      rw [nI_1]
      exact h1 q
    · refine br_n (fun z => q ((nI_eq (by omega) (by omega)).mp z)) (br_t rfl ⟨m_nb0, ?_⟩)
      rw [show nI a + 0 = nI a from nI_add a 0]
      exact h0 q
  · have ez : zsg n x a = 0 := if_neg e
    rw [ez] at h1 h0
    refine br_n (fun z => z_neg (r := w) (by omega) (x := -1) (by decide) z.symm) (br_t rfl ⟨m_nb0, ?_⟩)
    rw [show nI a + 0 = nI a from nI_add a 0]
    exact h0 (by omega)
/-- the rest of a word -/
def zwd (k : Nat) : List Nat := if k = 9 then [114, 101, 101, 116, 32] else if k = 10 then [108, 116, 32] else if k = 11 then [110, 111, 119, 32] else if k = 12 then [110, 100, 32] else if k = 13 then [97, 105, 116, 32] else if k = 14 then [108, 111, 117, 103, 104, 32] else if k = 15 then [114, 100, 101, 114, 32] else if k = 16 then [97, 110, 99, 101, 108, 32] else [111, 97, 100, 32]
theorem zwd_w : ∀ k : Nat, k < 18 → ∀ j : Nat, j < 6 → j < (zwd k).length → 32 ≤ (zwd k).getD j 0 ∧ (zwd k).getD j 0 < 128 ∧ (zwd k).getD j 0 ≠ 35 ∧ (zwd k).getD j 0 ≠ 37 ∧ (zwd k).getD j 0 ≠ 64 := by decide +kernel
theorem zwd_6 : ∀ k : Nat, k < 18 → (zwd k).length ≤ 6 := by decide +kernel
theorem zok_l {w c : Nat} (h1 : w ≠ 35) (h2 : w ≠ 37) (h3 : w ≠ 64) : zok w c = decide (c = w) := by
  unfold zok
  rw [if_neg (by omega), if_neg h3]
/-- a number of lim digits at most -/
theorem k_mnumL {n : Nat} {tp : Nat → Int32} {x : Nat → Nat} (h : zMX n tp x) {lim r : Nat} (hr : r < 155) (hl : 0 < lim) (hl3 : lim ≤ 3) {M : Nat → Int32} {post : Int32 → Int32 → (Nat → Int32) → Prop} : ∀ (k v a : Nat), k ≤ lim → a + k ≤ 900 →
    ((0 < lim - k ∨ (48 ≤ zsg n x a ∧ zsg n x a ≤ 57)) → post 1 (nI (zrn (zsg n x) k v a).2) (upd M r (nI (zrn (zsg n x) k v a).1))) →
    (¬ (0 < lim - k ∨ (48 ≤ zsg n x a ∧ zsg n x a ≤ 57)) → post 0 (nI a) (upd M r (nI v))) → wpX7_isNumber_L5 (nI lim) (nI r) (nI n) tp M post (k + 1) (nI v) (nI (lim - k)) (nI a)
  | 0, v, a, hk, ha, h1, h0 => by
    refine br_t (nI_le (by omega) (by omega)) ⟨vp_in_nI hr (by omega), br_f (nI_nle (by omega) (by omega)) ?_⟩
    rw [nI_clamp (by omega)]
    exact h1 (Or.inl (by omega))
  | k + 1, v, a, hk, ha, h1, h0 => by
    have out : ¬ (48 ≤ zsg n x a ∧ zsg n x a ≤ 57) → wpX7_isNumber_L54 (nI r) (nI n) tp post (nI v) (nI (lim - (k + 1))) (nI a) M := by
      intro d
      refine ⟨vp_in_nI hr (by omega), ?_⟩
      rw [nI_clamp (by omega)]
      by_cases e : 0 < lim - (k + 1)
      · have q := h1 (Or.inl e)
        rw [zrn_n d] at q
        exact br_f (nI_nle e (by omega)) q
      · exact br_t (nI_le (b := 0) (by omega) (by omega)) (h0 (by omega))
    refine br_f (nI_ge (by omega) (by omega)) (k_msg h (by omega) (fun e => ?_) (fun e => ?_))
    · have ez : zsg n x a = x a := if_pos e
      have hx := h.2 a e
      refine m_in (a := 48) (b := 57) (by omega) (by omega) (fun q hq1 hq2 eq => br_f (by decide) (k_msg h (by omega) (fun _ => ?_) (fun z => absurd e z))) (fun q => br_t rfl (out ?_))
      · have eq' := (nI_eq (by omega) (by omega)).mp eq
        have d : 48 ≤ zsg n x a ∧ zsg n x a ≤ 57 := by omega
        rw [zrn_y d] at h1
        rw [show (10 : Int32) = nI 10 from rfl, pk_mul, nI_add, show nI (10 * v + x a) - 48 = nI (10 * v + x a - 48) from pk_sub (b := 48) (by omega), nI_1, nI_1, show 10 * v + x a - 48 = 10 * v + (zsg n x a - 48) by omega, show lim - (k + 1) + 1 = lim - k by omega]
        exact k_mnumL h hr hl hl3 k _ _ (by omega) (by omega) (fun _ => h1 (Or.inr d)) (fun z => absurd (Or.inl (by omega)) z)
      · intro z
        exact q ⟨x a, by omega, by omega, rfl⟩
    · have ez : zsg n x a = 0 := if_neg e
      refine m_in (a := 48) (b := 57) (by omega) (by omega) (fun q hq1 hq2 eq => ?_) (fun q => br_t rfl (out (by omega)))
      exact absurd eq.symm (z_neg (by omega) (by decide))
theorem k_mnum {n : Nat} {tp : Nat → Int32} {x : Nat → Nat} (h : zMX n tp x) {lim r : Nat} (hr : r < 155) (hl : 0 < lim) (hl3 : lim ≤ 3) {M : Nat → Int32} {a : Nat} (ha : a ≤ 800) {post : Int32 → Int32 → (Nat → Int32) → Prop}
    (h1 : 48 ≤ zsg n x a ∧ zsg n x a ≤ 57 → post 1 (nI (zrn (zsg n x) lim 0 a).2) (upd M r (nI (zrn (zsg n x) lim 0 a).1)))
    (h0 : ¬ (48 ≤ zsg n x a ∧ zsg n x a ≤ 57) → post 0 (nI a) (upd M r (nI 0))) : wpX7_isNumber (nI lim) (nI r) (nI n) (nI a) tp M post := by
  unfold wpX7_isNumber
  have q := k_mnumL h hr hl hl3 lim 0 a (post := post) (M := M) (Nat.le_refl _) (by omega) (fun e => h1 (by omega)) (fun e => h0 (by omega))
  rw [Nat.sub_self] at q
  exact ⟨_, q⟩
theorem k_mcls {n : Nat} {tp : Nat → Int32} {x : Nat → Nat} (h : zMX n tp x) {r : Nat} (hr : r < 155) {M : Nat → Int32} {a : Nat} (ha : a ≤ 800) {post : Int32 → Int32 → (Nat → Int32) → Prop}
    (h1 : 97 ≤ zsg n x a ∧ zsg n x a ≤ 99 → post 1 (nI (a + 1)) (upd M r (nI (zsg n x a))))
    (h0 : ¬ (97 ≤ zsg n x a ∧ zsg n x a ≤ 99) → ∀ v, post 0 (nI a) (upd M r v)) : wpX7_isClass (nI r) (nI n) (nI a) tp M post := by
  unfold wpX7_isClass
  have go : ∀ s : Int32, (97 ≤ zsg n x a ∧ zsg n x a ≤ 99 → s = nI (zsg n x a)) → (vp_in (nI r) 155 ∧ wpX7_isSign 97 (nI n) (nI a) tp (fun r3 m_here_v3 => ((¬ r3 = 0 → post 1 m_here_v3 (upd M (nI r).toNatClampNeg s)) ∧
  (r3 = 0 → wpX7_isSign 98 (nI n) m_here_v3 tp (fun r4 m_here_v4 => ((¬ r4 = 0 → post 1 m_here_v4 (upd M (nI r).toNatClampNeg s)) ∧
  (r4 = 0 → wpX7_isSign 99 (nI n) m_here_v4 tp (fun r5 m_here_v5 => ((r5 = 0 → post 0 m_here_v5 (upd M (nI r).toNatClampNeg s)) ∧
  (¬ r5 = 0 → post 1 m_here_v5 (upd M (nI r).toNatClampNeg s))))))))))) := by
    intro s hs
    rw [nI_clamp (by omega)]
    have y : 97 ≤ zsg n x a ∧ zsg n x a ≤ 99 → post 1 (nI (a + 1)) (upd M r s) := fun e => by rw [hs e]; exact h1 e
    refine ⟨vp_in_nI hr (by omega), k_mis (w := 97) h (by omega) (by omega) (by omega) (fun e => br_n (by decide) (y (by omega))) (fun e7 => br_m rfl ?_)⟩
    refine k_mis (w := 98) h (by omega) (by omega) (by omega) (fun e => br_n (by decide) (y (by omega))) (fun e8 => br_m rfl ?_)
    exact k_mis (w := 99) h (by omega) (by omega) (by omega) (fun e => br_f (by decide) (y (by omega))) (fun e9 => br_t rfl (h0 (by omega) s))
  refine k_msg h (by omega) (fun e => go _ (fun _ => ?_)) (fun e => go _ (fun z => ?_))
  · rw [show zsg n x a = x a from if_pos e]
  · rw [show zsg n x a = 0 from if_neg e] at z
    omega

