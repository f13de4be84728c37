/-! the class: its small methods, on numbers -/
theorem k_isj {x : Int32} {post : Int32 → Prop} (h1 : ∀ a : Nat, a < 8 → x = nI a → post 1) (h0 : (¬ ∃ a : Nat, a < 8 ∧ x = nI a) → post 0) : wpX6_isJunction x post := by
  unfold wpX6_isJunction
  by_cases h : ∃ a : Nat, a < 8 ∧ x = nI a
  · obtain ⟨a, ha, rfl⟩ := h
    exact br_f (nI_pos (by omega)) (br_f (nI_ge (b := 8) ha (by omega)) (h1 a ha rfl))
  · rcases z_in (n := 8) (by omega) h with q | q
    · exact br_t q (h0 h)
    · exact ⟨fun _ => h0 h, fun _ => br_t q (h0 h)⟩
theorem k_isjI {a : Nat} (ha : a < 8) {post : Int32 → Prop} (h1 : post 1) : wpX6_isJunction (nI a) post :=
  k_isj (fun _ _ _ => h1) (fun h => absurd ⟨a, ha, rfl⟩ h)
theorem k_has {x : Int32} {n : Nat} (hn : n ≤ 12) {post : Int32 → Prop} (h1 : ∀ a : Nat, a < n → x = nI a → post 1) (h0 : (¬ ∃ a : Nat, a < n ∧ x = nI a) → post 0) : wpX4_has x (nI n) post := by
  unfold wpX4_has
  by_cases h : ∃ a : Nat, a < n ∧ x = nI a
  · obtain ⟨a, ha, rfl⟩ := h
    exact br_f (nI_pos (by omega)) (br_f (nI_ge ha (by omega)) (br_f (nI_ge (b := 12) (by omega) (by omega)) (h1 a ha rfl)))
  · rcases z_in (n := n) (by omega) h with q | q
    · exact br_t q (h0 h)
    · exact ⟨fun _ => h0 h, fun _ => br_t q (h0 h)⟩
theorem k_hasI {a n : Nat} (hn : n ≤ 12) (ha : a < n) {post : Int32 → Prop} (h1 : post 1) : wpX4_has (nI a) (nI n) post :=
  k_has hn (fun _ _ _ => h1) (fun h => absurd ⟨a, ha, rfl⟩ h)
theorem k_pas {x : Int32} {n : Nat} (hn : n ≤ 4) {post : Int32 → Prop} (h1 : ∀ a : Nat, a < n → x = nI a → post 1) (h0 : (¬ ∃ a : Nat, a < n ∧ x = nI a) → post 0) : wpX2_has x (nI n) post := by
  unfold wpX2_has
  by_cases h : ∃ a : Nat, a < n ∧ x = nI a
  · obtain ⟨a, ha, rfl⟩ := h
    exact br_f (nI_pos (by omega)) (br_f (nI_ge ha (by omega)) (br_f (nI_ge (b := 4) (by omega) (by omega)) (h1 a ha rfl)))
  · rcases z_in (n := n) (by omega) h with q | q
    · exact br_t q (h0 h)
    · exact ⟨fun _ => h0 h, fun _ => br_t q (h0 h)⟩
theorem k_pasI {a n : Nat} (hn : n ≤ 4) (ha : a < n) {post : Int32 → Prop} (h1 : post 1) : wpX2_has (nI a) (nI n) post :=
  k_pas hn (fun _ _ _ => h1) (fun h => absurd ⟨a, ha, rfl⟩ h)
theorem k_other {A : Nat → Nat} (hI : zI A) {s_lower s_higher : Nat → Int32} (hl : zL s_lower (A 1) (fun i => A (10 + 7 * i))) (hh : zL s_higher (A 1) (fun i => A (11 + 7 * i))) {i u : Nat} (hi : i < A 1) (hu : u < 8) {post : Int32 → Prop}
    (h1 : ∀ y : Nat, y < 8 → y ≠ u → ((A (10 + 7 * i) = u ∧ A (11 + 7 * i) = y) ∨ (A (10 + 7 * i) = y ∧ A (11 + 7 * i) = u)) → post (nI y)) (h0 : A (10 + 7 * i) ≠ u → A (11 + 7 * i) ≠ u → post (-1)) : wpX4_otherEnd (nI i) (nI u) s_lower s_higher post := by
  have hI1 := hI.1.1
  have hs := hI.2.1 i hi
  unfold wpX4_otherEnd
  have hin : vp_in (nI i) 12 := vp_in_nI (by omega) (by omega)
  rw [nI_clamp (by omega), hl i hi, hh i hi]
  try dsimp only
  refine br_f (nI_pos (by omega)) (br_t (nI_lt (b := 12) (by omega) (by omega)) ⟨hin, ?_⟩)
  by_cases e1 : A (10 + 7 * i) = u
  · refine br_m (by rw [e1]) ⟨hin, h1 _ (by omega) (by omega) (Or.inl ⟨e1, rfl⟩)⟩
  · refine br_n (fun q => e1 ((nI_eq (by omega) (by omega)).mp q)) ⟨hin, ?_⟩
    by_cases e2 : A (11 + 7 * i) = u
    · exact br_m (by rw [e2]) ⟨hin, h1 _ (by omega) (by omega) (Or.inr ⟨rfl, e2⟩)⟩
    · exact br_n (fun q => e2 ((nI_eq (by omega) (by omega)).mp q)) (h0 e1 e2)
/-- the limit of a class of streets -/
def zlim (k : Nat) : Nat := 5 * (k - 96)
theorem k_excess {A : Nat → Nat} (hI : zI A) {s_kind s_snow : Nat → Int32} (hk : zL s_kind (A 1) (fun i => A (12 + 7 * i))) (hs : zL s_snow (A 1) (fun i => A (14 + 7 * i))) {i : Nat} (hi : i < A 1) {post : Int32 → Prop} (h1 : post (nI (A (14 + 7 * i)) - nI (zlim (A (12 + 7 * i))))) : wpX4_excess (nI i) s_kind s_snow (nI (A 1)) post := by
  have hI1 := hI.1.1
  have hss := hI.2.1 i hi
  unfold wpX4_excess
  refine k_hasI hI1 hi ?_
  have hin : vp_in (nI i) 12 := vp_in_nI (by omega) (by omega)
  rw [nI_clamp (by omega), hk i hi, hs i hi]
  try dsimp only
  refine br_n (by decide) ⟨hin, ?_⟩
  rcases (show A (12 + 7 * i) = 97 ∨ A (12 + 7 * i) = 98 ∨ A (12 + 7 * i) = 99 by omega) with e | e | e <;> rw [e] at h1 ⊢
  · exact br_m rfl ⟨hin, h1⟩
  · exact br_n (by decide) ⟨hin, br_m rfl ⟨hin, h1⟩⟩
  · exact br_n (by decide) ⟨hin, br_n (by decide) ⟨hin, h1⟩⟩
theorem k_salt {A : Nat → Nat} (hI : zI A) {s_saltEnd : Nat → Int32} (hs : zL s_saltEnd (A 1) (fun i => A (15 + 7 * i))) {i : Nat} (hi : i < A 1) {x2 : Int32} {post : Int32 → Prop} (h1 : post (nI (A (15 + 7 * i)) - x2)) : wpX4_saltLeft (nI i) x2 s_saltEnd (nI (A 1)) post := by
  have hI1 := hI.1.1
  unfold wpX4_saltLeft
  refine k_hasI hI1 hi (br_f (by decide) ⟨vp_in_nI (by omega) (by omega), ?_⟩)
  rw [nI_clamp (by omega), hs i hi]
  try dsimp only
  exact h1
/-- a difference and 0 -/
theorem z_sub_le {a b : Nat} (ha : a < 2 ^ 30) (hb : b < 2 ^ 30) : nI a - nI b ≤ 0 ↔ a ≤ b := by
  rw [Int32.le_iff_toInt_le, pk_sub_toInt ha hb, Int32.toInt_zero]
  try dsimp only
  omega
theorem z_sub_lt {a b : Nat} (ha : a < 2 ^ 30) (hb : b < 2 ^ 30) : 0 < nI a - nI b ↔ b < a := by
  rw [Int32.lt_iff_toInt_lt, pk_sub_toInt ha hb, Int32.toInt_zero]
  try dsimp only
  omega
/-! rows of the streets, added up -/
def zsum (f : Nat → Nat) : Nat → Nat
  | 0 => 0
  | n + 1 => zsum f n + f n
theorem k_snowSum {s_snow : Nat → Int32} {n : Nat} (hn : n ≤ 12) {a : Nat → Nat} (hs : zL s_snow n a) {post : Int32 → Prop} (h1 : post (nI (zsum a n))) : wpX4_snowSum s_snow (nI n) post := by
  unfold wpX4_snowSum
  refine pk_loop (fun k i (v : Int32) => wpX4_snowSum_L4 s_snow (nI n) post k v (nI i)) (fun i v => v = nI (zsum a i)) n 0 0 (Nat.zero_le _) rfl ?_ ?_
  · rintro k v rfl
    exact br_t (nI_le (Nat.le_refl _) (by omega)) h1
  · rintro k i v hi rfl ih
    refine br_f (nI_ge hi (by omega)) (br_f (nI_ge (b := 12) (by omega) (by omega)) ⟨vp_in_nI (by omega) (by omega), ?_⟩)
    rw [nI_clamp (by omega), hs i hi, nI_add, nI_1]
    try dsimp only
    exact ih _ rfl
theorem k_compSum {s_snow : Nat → Int32} {n : Nat} (hn : n ≤ 12) {a : Nat → Nat} (hs : zL s_snow n a) {post : Int32 → Prop} (h1 : post (nI (zsum a n))) : wpX4_complaintSum s_snow (nI n) post := by
  unfold wpX4_complaintSum
  refine pk_loop (fun k i (v : Int32) => wpX4_complaintSum_L4 s_snow (nI n) post k v (nI i)) (fun i v => v = nI (zsum a i)) n 0 0 (Nat.zero_le _) rfl ?_ ?_
  · rintro k v rfl
    exact br_t (nI_le (Nat.le_refl _) (by omega)) h1
  · rintro k i v hi rfl ih
    refine br_f (nI_ge hi (by omega)) (br_f (nI_ge (b := 12) (by omega) (by omega)) ⟨vp_in_nI (by omega) (by omega), ?_⟩)
    rw [nI_clamp (by omega), hs i hi, nI_add, nI_1]
    try dsimp only
    exact ih _ rfl
theorem k_depths {A : Nat → Nat} (hI : zI A) {s_snow : Nat → Int32} (hs : zL s_snow (A 1) (fun i => A (14 + 7 * i))) {post : Int32 → Prop} (h1 : post 1) : wpX4_depthsAllowed s_snow (nI (A 1)) post := by
  have hI1 := hI.1.1
  unfold wpX4_depthsAllowed
  refine pk_loop (fun k i (_ : Unit) => wpX4_depthsAllowed_L2 s_snow (nI (A 1)) post k (nI i)) (fun _ _ => True) (A 1) 0 () (Nat.zero_le _) trivial ?_ ?_
  · rintro k _ -
    exact br_t (nI_le (Nat.le_refl _) (by omega)) h1
  · rintro k i _ hi - ih
    have hss := hI.2.1 i hi
    refine br_f (nI_ge hi (by omega)) (br_f (nI_ge (b := 12) (by omega) (by omega)) ⟨vp_in_nI (by omega) (by omega), ?_⟩)
    rw [nI_clamp (by omega), hs i hi]
    try dsimp only
    refine br_f (nI_pos (by omega)) ⟨vp_in_nI (by omega) (by omega), br_t (nI_le (b := 200) (by omega) (by omega)) ?_⟩
    rw [nI_1]
    exact ih () trivial
/-- how many of the first n are so -/
def zcn (p : Nat → Prop) [DecidablePred p] : Nat → Nat
  | 0 => 0
  | n + 1 => zcn p n + (if p n then 1 else 0)
theorem zcn_le (p : Nat → Prop) [DecidablePred p] : ∀ n, zcn p n ≤ n
  | 0 => Nat.le_refl 0
  | n + 1 => by
    have := zcn_le p n
    unfold zcn
    split <;> omega
theorem k_salted {A : Nat → Nat} (hI : zI A) (hT : A 0 < 2 ^ 29) {s_saltEnd : Nat → Int32} (hs : zL s_saltEnd (A 1) (fun i => A (15 + 7 * i))) {post : Int32 → Prop} (h1 : post (nI (zcn (fun i => A 0 < A (15 + 7 * i)) (A 1)))) : wpX4_saltedCount (nI (A 0)) s_saltEnd (nI (A 1)) post := by
  have hI1 := hI.1.1
  unfold wpX4_saltedCount
  refine pk_loop (fun k i (v : Int32) => wpX4_saltedCount_L4 (nI (A 0)) s_saltEnd (nI (A 1)) post k v (nI i)) (fun i v => v = nI (zcn (fun i => A 0 < A (15 + 7 * i)) i)) (A 1) 0 0 (Nat.zero_le _) rfl ?_ ?_
  · rintro k v rfl
    exact br_t (nI_le (Nat.le_refl _) (by omega)) h1
  · rintro k i v hi rfl ih
    have hss := hI.2.1 i hi
    refine br_f (nI_ge hi (by omega)) (k_salt hI hs hi ?_)
    by_cases e : A 0 < A (15 + 7 * i)
    · refine br_f (fun q => by have := (z_sub_le (by omega) (by omega)).mp q; omega) ?_
      rw [nI_1, nI_1]
      exact ih _ (by show _ = nI (zcn _ i + (if _ then 1 else 0)); rw [if_pos e])
    · refine br_t ((z_sub_le (by omega) (by omega)).mpr (by omega)) ?_
      rw [nI_1]
      exact ih _ (by show _ = nI (zcn _ i + (if _ then 1 else 0)); rw [if_neg e, Nat.add_zero])

