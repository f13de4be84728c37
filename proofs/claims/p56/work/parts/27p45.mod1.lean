/-! the reference: its small methods, on numbers -/
theorem m_in {x : Int32} {a b : Nat} (ha : a < 2 ^ 31) (hb : b < 2 ^ 31) {post : Int32 → Prop} (h1 : ∀ k : Nat, a ≤ k → k ≤ b → x = nI k → post 1) (h0 : (¬ ∃ k : Nat, a ≤ k ∧ k ≤ b ∧ x = nI k) → post 0) : wpX7_isIn x (nI a) (nI b) post := by
  unfold wpX7_isIn
  by_cases h : ∃ k : Nat, a ≤ k ∧ k ≤ b ∧ x = nI k
  · obtain ⟨k, k1, k2, rfl⟩ := h
    exact br_f (nI_nlt k1 (by omega)) (br_f (nI_nlt k2 (by omega)) (h1 k k1 k2 rfl))
  · rcases z_rng x a b ha hb with q | q | ⟨k, k1, k2, e⟩
    · exact br_t q (h0 h)
    · exact ⟨fun _ => h0 h, fun _ => br_t q (h0 h)⟩
    · exact absurd ⟨k, k1, k2, e⟩ h
/-- a row from 0 to n - 1 -/
theorem m_inC {x : Int32} {n : Nat} (hn : n < 2 ^ 30) {post : Int32 → Prop} (h1 : ∀ k : Nat, k < n → x = nI k → post 1) (h0 : (¬ ∃ k : Nat, k < n ∧ x = nI k) → post 0) : wpX7_isIn x 0 (nI n - 1) post := by
  by_cases e : n = 0
  · subst e
    have hno : ¬ ∃ k : Nat, k < 0 ∧ x = nI k := fun ⟨k, hk, _⟩ => absurd hk (Nat.not_lt_zero k)
    unfold wpX7_isIn
    by_cases q : x < 0
    · exact br_t q (h0 hno)
    · refine br_f q (br_t ?_ (h0 hno))
      obtain ⟨j, hj, rfl⟩ := nI_of q
      rw [Int32.lt_iff_toInt_lt, nI_toInt hj, show (nI 0 - 1).toInt = -1 from rfl]
      omega
  · rw [show nI n - 1 = nI (n - 1) from pk_sub (a := n) (b := 1) (by omega)]
    exact m_in (a := 0) (by omega) (by omega) (fun k _ h2 e => h1 k (by omega) e) (fun h => h0 (fun ⟨k, hk, e⟩ => h ⟨k, Nat.zero_le _, by omega, e⟩))
theorem m_nb0 : narrow .boolean (.int 0) = .int 0 := rfl
theorem m_nb1 : narrow .boolean (.int 1) = .int 1 := rfl
theorem m_isj {x : Int32} {post : Int32 → Prop} (h1 : ∀ a : Nat, a < 8 → x = nI a → post 1) (h0 : (¬ ∃ a : Nat, a < 8 ∧ x = nI a) → post 0) : wpX7_isJunction x post := by
  unfold wpX7_isJunction
  exact m_in (a := 0) (b := 7) (by omega) (by omega) (fun k _ h2 e => ⟨m_nb1, h1 k (by omega) e⟩) (fun h => ⟨m_nb0, h0 (fun ⟨k, hk, e⟩ => h ⟨k, Nat.zero_le _, by omega, e⟩)⟩)
theorem m_isS {A : Nat → Nat} {m : Nat → Int32} (hM : zM A m) (hn : A 1 ≤ 12) {x : Int32} {post : Int32 → Prop} (h1 : ∀ a : Nat, a < A 1 → x = nI a → post 1) (h0 : (¬ ∃ a : Nat, a < A 1 ∧ x = nI a) → post 0) : wpX7_isStreet x m post := by
  unfold wpX7_isStreet
  refine ⟨by unfold vp_in; decide, ?_⟩
  rw [show (1 : Int32).toNatClampNeg = 1 from rfl, hM 1 (by omega)]
  try dsimp only
  exact m_inC (by omega) (fun k hk e => ⟨m_nb1, h1 k hk e⟩) (fun h => ⟨m_nb0, h0 h⟩)
theorem m_isP {A : Nat → Nat} {m : Nat → Int32} (hM : zM A m) (hn : A 2 ≤ 4) {x : Int32} {post : Int32 → Prop} (h1 : ∀ a : Nat, a < A 2 → x = nI a → post 1) (h0 : (¬ ∃ a : Nat, a < A 2 ∧ x = nI a) → post 0) : wpX7_isPlough x m post := by
  unfold wpX7_isPlough
  refine ⟨by unfold vp_in; decide, ?_⟩
  rw [show (2 : Int32).toNatClampNeg = 2 from rfl, hM 2 (by omega)]
  try dsimp only
  exact m_inC (by omega) (fun k hk e => ⟨m_nb1, h1 k hk e⟩) (fun h => ⟨m_nb0, h0 h⟩)
theorem m_no {as thr : Int32} {post : Int32 → Int32 → Prop} (h : post 0 0) : wpX7_isThrown 0 as thr post := br_t rfl ⟨m_nb0, h⟩
theorem m_yes {as thr : Int32} {post : Int32 → Int32 → Prop} (h : post 1 as) : wpX7_isThrown 1 as thr post := br_f (by decide) ⟨m_nb1, h⟩
theorem m_ix (i k : Nat) : (10 + (7 * nI i)) + nI k = nI (10 + 7 * i + k) := by
  rw [show (10 : Int32) = nI 10 from rfl, show (7 : Int32) = nI 7 from rfl, pk_mul, nI_add, nI_add]
theorem m_ixp (i k : Nat) : (94 + (9 * nI i)) + nI k = nI (94 + 9 * i + k) := by
  rw [show (94 : Int32) = nI 94 from rfl, show (9 : Int32) = nI 9 from rfl, pk_mul, nI_add, nI_add]
theorem m_of {A : Nat → Nat} {m : Nat → Int32} (hM : zM A m) (i k : Nat) {kI : Int32} (hk : kI = nI k) (h : 10 + 7 * i + k < 130) {post : Int32 → Prop} (h1 : post (nI (A (10 + 7 * i + k)))) : wpX7_of (nI i) kI m post := by
  subst hk
  unfold wpX7_of
  rw [m_ix, nI_clamp (by omega), hM _ h]
  try dsimp only
  exact ⟨vp_in_nI h (by omega), h1⟩
theorem m_sets {A : Nat → Nat} {m : Nat → Int32} (hM : zM A m) (i k v : Nat) {kI vI : Int32} (hk : kI = nI k) (hv : vI = nI v) (h : 10 + 7 * i + k < 130) {post : (Nat → Int32) → Prop} (h1 : ∀ m', zM (zu A (10 + 7 * i + k) v) m' → post m') : wpX7_sets (nI i) kI vI m post := by
  subst hk hv
  unfold wpX7_sets
  rw [m_ix, nI_clamp (by omega)]
  exact ⟨vp_in_nI h (by omega), h1 _ (zM_u hM _ _)⟩
theorem m_ofP {A : Nat → Nat} {m : Nat → Int32} (hM : zM A m) (i k : Nat) {kI : Int32} (hk : kI = nI k) (h : 94 + 9 * i + k < 130) {post : Int32 → Prop} (h1 : post (nI (A (94 + 9 * i + k)))) : wpX7_ofPlough (nI i) kI m post := by
  subst hk
  unfold wpX7_ofPlough
  rw [m_ixp, nI_clamp (by omega), hM _ h]
  try dsimp only
  exact ⟨vp_in_nI h (by omega), h1⟩
theorem m_setsP {A : Nat → Nat} {m : Nat → Int32} (hM : zM A m) (i k v : Nat) {kI vI : Int32} (hk : kI = nI k) (hv : vI = nI v) (h : 94 + 9 * i + k < 130) {post : (Nat → Int32) → Prop} (h1 : ∀ m', zM (zu A (94 + 9 * i + k) v) m' → post m') : wpX7_setsPlough (nI i) kI vI m post := by
  subst hk hv
  unfold wpX7_setsPlough
  rw [m_ixp, nI_clamp (by omega)]
  exact ⟨vp_in_nI h (by omega), h1 _ (zM_u hM _ _)⟩
theorem m_lesser {a b : Nat} (ha : a < 2 ^ 31) (hb : b < 2 ^ 31) {post : Int32 → Prop} (h : post (nI (if a < b then a else b))) : wpX7_lesser (nI a) (nI b) post := by
  unfold wpX7_lesser
  by_cases e : a < b
  · rw [if_pos e] at h
    exact br_f (nI_ge e hb) h
  · rw [if_neg e] at h
    exact br_t (nI_le (by omega) ha) h
theorem m_greater {a b : Nat} (ha : a < 2 ^ 31) (hb : b < 2 ^ 31) {post : Int32 → Prop} (h : post (nI (if b < a then a else b))) : wpX7_greater (nI a) (nI b) post := by
  unfold wpX7_greater
  by_cases e : b < a
  · rw [if_pos e] at h
    exact br_f (nI_ge e ha) h
  · rw [if_neg e] at h
    exact br_t (nI_le (by omega) hb) h
theorem m_limit {A : Nat → Nat} {m : Nat → Int32} (hM : zM A m) {i : Nat} (hi : i < 12) (h97 : 97 ≤ A (12 + 7 * i)) {post : Int32 → Prop} (h : post (nI (zlim (A (12 + 7 * i))))) : wpX7_limit (nI i) m post := by
  unfold wpX7_limit
  refine m_of hM i 2 rfl (by omega) ?_
  rw [show 10 + 7 * i + 2 = 12 + 7 * i by omega, show (97 : Int32) = nI 97 from rfl, pk_sub h97, nI_1, show (5 : Int32) = nI 5 from rfl, pk_mul, show 5 * (A (12 + 7 * i) - 97 + 1) = zlim (A (12 + 7 * i)) by unfold zlim; omega]
  exact h
theorem m_overdue {A : Nat → Nat} (hI : zI A) {m : Nat → Int32} (hM : zM A m) {i : Nat} (hi : i < A 1) {post : Int32 → Prop} (h1 : zlim (A (12 + 7 * i)) < A (14 + 7 * i) → post 1) (h0 : ¬ zlim (A (12 + 7 * i)) < A (14 + 7 * i) → post 0) : wpX7_overdue (nI i) m post := by
  have hI1 := hI.1.1
  have hs := hI.2.1 i hi
  unfold wpX7_overdue
  refine m_of hM i 4 rfl (by omega) (m_limit hM (by omega) hs.2.2.1 ?_)
  rw [show 10 + 7 * i + 4 = 14 + 7 * i by omega]
  have hz : zlim (A (12 + 7 * i)) < 2 ^ 31 := by unfold zlim; omega
  by_cases e : zlim (A (12 + 7 * i)) < A (14 + 7 * i)
  · exact br_f (nI_ge e (by omega)) (h1 e)
  · exact br_t (nI_le (by omega) hz) (h0 e)
theorem m_salted {A : Nat → Nat} {m : Nat → Int32} (hM : zM A m) {i : Nat} (hi : i < 12) (hT : A 0 < 2 ^ 29) (hE : A (15 + 7 * i) ≤ A 0 + 240) {post : Int32 → Prop} (h1 : A 0 < A (15 + 7 * i) → post 1) (h0 : ¬ A 0 < A (15 + 7 * i) → post 0) : wpX7_salted (nI i) m post := by
  unfold wpX7_salted
  refine ⟨by unfold vp_in; decide, m_of hM i 5 rfl (by omega) ?_⟩
  rw [show 10 + 7 * i + 5 = 15 + 7 * i by omega, show (0 : Int32).toNatClampNeg = 0 from rfl, hM 0 (by omega)]
  try dsimp only
  by_cases e : A 0 < A (15 + 7 * i)
  · exact br_f (nI_ge e (by omega)) (h1 e)
  · exact br_t (nI_le (by omega) (by omega)) (h0 e)
/-- the whole row, copied from a place to a place -/
theorem m_copies {a b vn wn : Nat} {vf wf : Nat → Int32} (ha : a + 130 ≤ vn) (hb : b + 130 ≤ wn) (hvn : vn < 2 ^ 30) (hwn : wn < 2 ^ 30) {aI bI : Int32} (ea : aI = nI a) (eb : bI = nI b) {post : (Nat → Int32) → Prop}
    (h : ∀ f, (∀ k : Nat, k < 130 → f (b + k) = vf (a + k)) → (∀ j, (j < b ∨ b + 130 ≤ j) → f j = wf j) → post f) : wpX7_copies aI bI vn vf wn wf post := by
  subst ea eb
  unfold wpX7_copies
  refine pk_loop (fun n i f => wpX7_copies_L3 (nI a) (nI b) vn vf wn post n (nI i) f) (fun i f => (∀ k : Nat, k < i → f (b + k) = vf (a + k)) ∧ ∀ j, (j < b ∨ b + i ≤ j) → f j = wf j) 130 0 wf (Nat.zero_le _) ⟨fun k hk => absurd hk (Nat.not_lt_zero k), fun _ _ => rfl⟩ ?_ ?_
  · rintro n f ⟨h1, h2⟩
    exact br_t (nI_le (b := 130) (Nat.le_refl _) (by omega)) (h f h1 h2)
  · rintro n i f hi ⟨h1, h2⟩ ih
    refine br_f (nI_ge (b := 130) hi (by omega)) ?_
    rw [nI_add, nI_add, nI_1, nI_clamp (by omega), nI_clamp (by omega)]
    refine ⟨vp_in_nI (by omega) (by omega), vp_in_nI (by omega) (by omega), ih _ ⟨fun k hk => ?_, fun j hj => ?_⟩⟩
    · by_cases e : k = i
      · subst e
        exact pk_us
      · rw [pk_un (by omega)]
        exact h1 k (by omega)
    · rw [pk_un (by omega)]
      exact h2 j (by omega)
/-- the same within one row, downwards -/
theorem m_copiesS {a b vn : Nat} {vf : Nat → Int32} (hab : b + 130 ≤ a) (ha : a + 130 ≤ vn) (hvn : vn < 2 ^ 30) {aI bI : Int32} (ea : aI = nI a) (eb : bI = nI b) {post : (Nat → Int32) → Prop}
    (h : ∀ f, (∀ k : Nat, k < 130 → f (b + k) = vf (a + k)) → (∀ j, (j < b ∨ b + 130 ≤ j) → f j = vf j) → post f) : wpX7_copies_same aI bI vn vf post := by
  subst ea eb
  unfold wpX7_copies_same
  refine pk_loop (fun n i f => wpX7_copies_same_L3 (nI a) (nI b) vn post n (nI i) f) (fun i f => (∀ k : Nat, k < i → f (b + k) = vf (a + k)) ∧ ∀ j, (j < b ∨ b + i ≤ j) → f j = vf j) 130 0 vf (Nat.zero_le _) ⟨fun k hk => absurd hk (Nat.not_lt_zero k), fun _ _ => rfl⟩ ?_ ?_
  · rintro n f ⟨h1, h2⟩
    exact br_t (nI_le (b := 130) (Nat.le_refl _) (by omega)) (h f h1 h2)
  · rintro n i f hi ⟨h1, h2⟩ ih
    refine br_f (nI_ge (b := 130) hi (by omega)) ?_
    rw [nI_add, nI_add, nI_1, nI_clamp (by omega), nI_clamp (by omega)]
    refine ⟨vp_in_nI (by omega) (by omega), vp_in_nI (by omega) (by omega), ih _ ⟨fun k hk => ?_, fun j hj => ?_⟩⟩
    · by_cases e : k = i
      · subst e
        rw [pk_us]
        exact h2 _ (by omega)
      · rw [pk_un (by omega)]
        exact h1 k (by omega)
    · rw [pk_un (by omega)]
      exact h2 j (by omega)
/-! the reference's way to measure -/
def zBF (A : Nat → Nat) (u : Nat) (D d : Nat → Nat) : Prop := d u = 0 ∧ ∀ v : Nat, v < 8 → D v ≤ d v ∧ d v ≤ 9999
theorem m_finds {A : Nat → Nat} (hI : zI A) {m m_far : Nat → Int32} (hM : zM A m) {u : Nat} (hu : u < 8) {post : (Nat → Int32) → Prop} (h : ∀ f, zL f 8 (zD A u) → post f) : wpX7_finds (nI u) m m_far post := by
  have hE := zG_E hI
  have hD := zD_sp hI u
  have hI1 := hI.1.1
  unfold wpX7_finds
  refine pk_loop (fun n i f => wpX7_finds_L2 (nI u) m post n (nI i) f) (fun i f => ∀ k : Nat, k < i → f k = nI (if k = u then 0 else 9999)) 8 0 m_far (Nat.zero_le _) (fun k hk => absurd hk (Nat.not_lt_zero k)) ?_ ?_
  · intro n f h0
    refine br_t (nI_le (b := 8) (Nat.le_refl _) (by omega)) ?_
    refine pk_loop (fun n i f => wpX7_finds_L34 m post n (nI i) f) (fun r f => ∃ d, zL f 8 d ∧ zBF A u (zD A u) d ∧ ∀ v : Nat, v < 8 → zD A u v < 9999 → zr (zD A u) v + 1 ≤ r → d v = zD A u v) 8 1 f (by omega) ?_ ?_ ?_
    · refine ⟨fun v => if v = u then 0 else 9999, h0, ⟨if_pos rfl, fun v hv => ?_⟩, fun v hv hf hr => ?_⟩
      · try dsimp only
        by_cases e : v = u
        · rw [if_pos e, e, hD.1]
          omega
        · rw [if_neg e]
          exact ⟨hD.2.2.2.2 v, Nat.le_refl _⟩
      · try dsimp only
        by_cases e : v = u
        · rw [if_pos e, e, hD.1]
        · obtain ⟨x, l, he, hx, hxl⟩ := hD.2.2.1 v hv e hf
          obtain ⟨x8, -, l1, -⟩ := hE.1 x v l he
          have := zr_lt (D := zD A u) (x := x) (v := v) (by omega) x8
          omega
    · rintro n f ⟨d, h1, h2, h3⟩
      refine br_t (nI_le (b := 8) (Nat.le_refl _) (by omega)) (h f (fun v hv => ?_))
      rw [h1 v hv]
      try dsimp only
      by_cases hf : zD A u v < 9999
      · rw [h3 v hv hf (by have := zr_7 (D := zD A u) hv; omega)]
      · have := h2.2 v hv
        rw [show d v = zD A u v by omega]
    · rintro n r f hr ⟨d, h1, h2, h3⟩ ih
      refine br_f (nI_ge (b := 8) hr (by omega)) ?_
      refine pk_loop (fun n i f => wpX7_finds_L42 m (nI r) (fun v1 v2 => wpX7_finds_L34 m post _ v1 v2) post n (nI i) f) (fun i f => ∃ d, zL f 8 d ∧ zBF A u (zD A u) d ∧ (∀ v : Nat, v < 8 → zD A u v < 9999 → zr (zD A u) v + 1 ≤ r → d v = zD A u v) ∧ ∀ i' : Nat, i' < i → ∀ x y, ((A (10 + 7 * i') = x ∧ A (11 + 7 * i') = y) ∨ (A (10 + 7 * i') = y ∧ A (11 + 7 * i') = x)) → zD A u x < 9999 → zr (zD A u) x + 1 ≤ r → d y ≤ zD A u x + A (13 + 7 * i')) (A 1) 0 f (Nat.zero_le _) ⟨d, h1, h2, h3, fun i' hi' => absurd hi' (Nat.not_lt_zero i')⟩ ?_ ?_
      · rintro k f ⟨d, h1, h2, h3, h4⟩
        show wpX7_finds_L42 m (nI r) (fun v1 v2 => wpX7_finds_L34 m post n v1 v2) post (k + 1) (nI (A 1)) f
        refine ⟨by unfold vp_in; decide, ?_⟩
        rw [show (1 : Int32).toNatClampNeg = 1 from rfl, hM 1 (by omega)]
        try dsimp only
        refine br_t (nI_le (Nat.le_refl _) (by omega)) ?_
        rw [nI_1]
        refine ih f ⟨d, h1, h2, fun v hv hf hrr => ?_⟩
        by_cases e : v = u
        · rw [e, h2.1, hD.1]
        · obtain ⟨x, l, he, hx, hxl⟩ := hD.2.2.1 v hv e hf
          obtain ⟨x8, -, l1, -⟩ := hE.1 x v l he
          have a := zr_lt (D := zD A u) (x := x) (v := v) (by omega) x8
          obtain ⟨i', hi', rfl, hxy⟩ := he
          have b := h4 i' hi' x v hxy hx (by omega)
          have c := h2.2 v hv
          omega
      · rintro k i f hi ⟨d, h1, h2, h3, h4⟩ ih2
        have hs := hI.2.1 i hi
        show wpX7_finds_L42 m (nI r) (fun v1 v2 => wpX7_finds_L34 m post n v1 v2) post (k + 1) (nI i) f
        refine ⟨by unfold vp_in; decide, ?_⟩
        rw [show (1 : Int32).toNatClampNeg = 1 from rfl, hM 1 (by omega)]
        try dsimp only
        refine br_f (nI_ge hi (by omega)) (m_of hM i 0 rfl (by omega) (m_of hM i 1 rfl (by omega) ?_))
        rw [show 10 + 7 * i + 0 = 10 + 7 * i by omega, show 10 + 7 * i + 1 = 11 + 7 * i by omega]
        refine ⟨vp_in_nI (by omega) (by omega), vp_in_nI (by omega) (by omega), m_of hM i 3 rfl (by omega) ?_⟩
        rw [show 10 + 7 * i + 3 = 13 + 7 * i by omega, nI_clamp (by omega), nI_clamp (by omega), h1 _ (by omega : A (11 + 7 * i) < 8), h1 _ (by omega : A (10 + 7 * i) < 8), nI_add]
        have dl := h2.2 (A (10 + 7 * i)) (by omega)
        have dh := h2.2 (A (11 + 7 * i)) (by omega)
        refine m_lesser (by omega) (by omega) ⟨vp_in_nI (by omega) (by omega), vp_in_nI (by omega) (by omega), vp_in_nI (by omega) (by omega), m_of hM i 3 rfl (by omega) ?_⟩
        obtain ⟨vh, evh⟩ : ∃ q, q = if d (A (11 + 7 * i)) < d (A (10 + 7 * i)) + A (13 + 7 * i) then d (A (11 + 7 * i)) else d (A (10 + 7 * i)) + A (13 + 7 * i) := ⟨_, rfl⟩
        have g1 : zD A u (A (10 + 7 * i)) < 9999 → zD A u (A (11 + 7 * i)) < 9999 ∧ zD A u (A (11 + 7 * i)) ≤ zD A u (A (10 + 7 * i)) + A (13 + 7 * i) := hD.2.1 _ _ _ ⟨i, hi, rfl, Or.inl ⟨rfl, rfl⟩⟩
        have g2 : zD A u (A (11 + 7 * i)) < 9999 → zD A u (A (10 + 7 * i)) < 9999 ∧ zD A u (A (10 + 7 * i)) ≤ zD A u (A (11 + 7 * i)) + A (13 + 7 * i) := hD.2.1 _ _ _ ⟨i, hi, rfl, Or.inr ⟨rfl, rfl⟩⟩
        have kl := hD.2.2.2.2 (A (10 + 7 * i))
        have kh := hD.2.2.2.2 (A (11 + 7 * i))
        have vh1 : zD A u (A (11 + 7 * i)) ≤ vh ∧ vh ≤ d (A (11 + 7 * i)) ∧ vh ≤ d (A (10 + 7 * i)) + A (13 + 7 * i) := by
          rw [evh]
          split <;> omega
        rw [← evh, show 10 + 7 * i + 3 = 13 + 7 * i by omega, pk_us, pk_un (by omega), h1 _ (by omega : A (10 + 7 * i) < 8), nI_add]
        refine m_lesser (by omega) (by omega) ⟨vp_in_nI (by omega) (by omega), ?_⟩
        obtain ⟨vl, evl⟩ : ∃ q, q = if d (A (10 + 7 * i)) < vh + A (13 + 7 * i) then d (A (10 + 7 * i)) else vh + A (13 + 7 * i) := ⟨_, rfl⟩
        have vl1 : zD A u (A (10 + 7 * i)) ≤ vl ∧ vl ≤ d (A (10 + 7 * i)) ∧ vl ≤ vh + A (13 + 7 * i) := by
          rw [evl]
          split <;> omega
        rw [← evl, nI_1]
        have hle : ∀ v, zu (zu d (A (11 + 7 * i)) vh) (A (10 + 7 * i)) vl v ≤ d v := by
          intro v
          by_cases e1 : v = A (10 + 7 * i)
          · rw [e1, zu_s]
            exact vl1.2.1
          · rw [zu_n e1]
            by_cases e2 : v = A (11 + 7 * i)
            · rw [e2, zu_s]
              exact vh1.2.1
            · rw [zu_n e2]
              exact Nat.le_refl _
        have hge : ∀ v : Nat, v < 8 → zD A u v ≤ zu (zu d (A (11 + 7 * i)) vh) (A (10 + 7 * i)) vl v := by
          intro v hv
          by_cases e1 : v = A (10 + 7 * i)
          · rw [e1, zu_s]
            exact vl1.1
          · rw [zu_n e1]
            by_cases e2 : v = A (11 + 7 * i)
            · rw [e2, zu_s]
              exact vh1.1
            · rw [zu_n e2]
              exact (h2.2 v hv).1
        refine ih2 _ ⟨zu (zu d (A (11 + 7 * i)) vh) (A (10 + 7 * i)) vl, zL_u (zL_u h1 _ _) _ _, ⟨?_, fun v hv => ⟨hge v hv, Nat.le_trans (hle v) (h2.2 v hv).2⟩⟩, fun v hv hf hrr => ?_, fun i' hi' x y hxy hx hrr => ?_⟩
        · have a := hle u
          have b := h2.1
          omega
        · have a := hle v
          have b := hge v hv
          have c := h3 v hv hf hrr
          omega
        · by_cases e : i' = i
          · subst e
            rcases hxy with ⟨rfl, rfl⟩ | ⟨rfl, rfl⟩
            · have c := h3 (A (10 + 7 * i')) (by omega) hx hrr
              rw [zu_n (by omega), zu_s]
              omega
            · have c := h3 (A (11 + 7 * i')) (by omega) hx hrr
              rw [zu_s]
              omega
          · have a := h4 i' (by omega) x y hxy hx hrr
            have b := hle y
            omega
  · intro n i f hi h0 ih
    refine br_f (nI_ge (b := 8) hi (by omega)) ?_
    rw [nI_clamp (by omega), nI_1]
    have hq : ∀ x, x = nI (if i = u then 0 else 9999) → ∀ k : Nat, k < i + 1 → upd f i x k = nI (if k = u then 0 else 9999) := by
      rintro x rfl k hk
      by_cases e : k = i
      · subst e
        rw [pk_us]
      · rw [pk_un e]
        exact h0 k (by omega)
    by_cases e : i = u
    · refine br_m (by rw [e]) ⟨vp_in_nI hi (by omega), ih _ (hq 0 ?_)⟩
      rw [if_pos e]; rfl
    · refine br_n (fun q => e ((nI_eq (by omega) (by omega)).mp q)) ⟨vp_in_nI hi (by omega), ih _ (hq 9999 ?_)⟩
      rw [if_neg e]; rfl

