/-! what changes a town: the class and the reference alike -/
def zTc (A : Nat → Nat) (t_time : Int32) (t_store : Int32) (t_rate : Int32) (t_force : Int32) (t_cleared : Int32) (t_ploughed : Int32) (t_failed : Int32) (t_complained : Int32) (s_lower : Nat → Int32) (s_higher : Nat → Int32) (s_kind : Nat → Int32) (s_size : Nat → Int32) (s_snow : Nat → Int32) (s_saltEnd : Nat → Int32) (s_complained : Nat → Int32) (s_clearings : Nat → Int32) (s_count : Int32) (q_place : Nat → Int32) (q_target : Nat → Int32) (q_minutesLeft : Nat → Int32) (q_waiting : Nat → Int32) (q_orders : Nat → Int32) (q_count : Int32) : Prop :=
  zI A ∧ zT A t_time t_store t_rate t_force t_cleared t_ploughed t_failed t_complained ∧ zS A s_lower s_higher s_kind s_size s_snow s_saltEnd s_complained s_count ∧ zQ A q_place q_target q_minutesLeft q_waiting q_orders q_count ∧ zK s_kind ∧ ∃ C : Nat → Nat, zL s_clearings (A 1) C ∧ ∀ i : Nat, i < A 1 → C i ≤ 4 * A 0
def zTT (A : Nat → Nat) (u : TT) : Prop := zTc A u.1 u.2.1 u.2.2.1 u.2.2.2.1 u.2.2.2.2.1 u.2.2.2.2.2.1 u.2.2.2.2.2.2.1 u.2.2.2.2.2.2.2.1 u.2.2.2.2.2.2.2.2.1 u.2.2.2.2.2.2.2.2.2.1 u.2.2.2.2.2.2.2.2.2.2.1 u.2.2.2.2.2.2.2.2.2.2.2.1 u.2.2.2.2.2.2.2.2.2.2.2.2.1 u.2.2.2.2.2.2.2.2.2.2.2.2.2.1 u.2.2.2.2.2.2.2.2.2.2.2.2.2.2.1 u.2.2.2.2.2.2.2.2.2.2.2.2.2.2.2.1 u.2.2.2.2.2.2.2.2.2.2.2.2.2.2.2.2.1 u.2.2.2.2.2.2.2.2.2.2.2.2.2.2.2.2.2.1 u.2.2.2.2.2.2.2.2.2.2.2.2.2.2.2.2.2.2.1 u.2.2.2.2.2.2.2.2.2.2.2.2.2.2.2.2.2.2.2.1 u.2.2.2.2.2.2.2.2.2.2.2.2.2.2.2.2.2.2.2.2.1 u.2.2.2.2.2.2.2.2.2.2.2.2.2.2.2.2.2.2.2.2.2.1 u.2.2.2.2.2.2.2.2.2.2.2.2.2.2.2.2.2.2.2.2.2.2
abbrev zX : Type := (Nat → Int32) × (Nat → Int32)
abbrev zY : Type := Int32 × (Nat → Int32) × (Nat → Int32)
/-- the class and the reference do the same: they refuse alike, or tell the same number and stand for the same town -/
def zAg (A : Nat → Nat) (P : List (Int32 × Int32)) (d : Nat) (E : Prop) (E' : (Nat → Nat) → Prop) (F : TT → Prop) (u : TT) (x : zX) (cls : (Int32 → TT → zX → Prop) → Prop) (mod : (Nat → Int32) → zY → (Int32 → Int32 → (Nat → Int32) → zY → Prop) → Prop) : Prop :=
  (∃ c k, (c, k) ∈ P ∧ E ∧ (∀ post : Int32 → TT → zX → Prop, post c u x → cls post) ∧ ∀ (m : Nat → Int32) (y : zY), zM A m → ∀ post : Int32 → Int32 → (Nat → Int32) → zY → Prop, post 0 k m y → mod m y post) ∨
  ∃ (B : Nat → Nat) (r : Nat), r < 2 ^ 30 ∧ (zMo A B r ∧ E' B) ∧ B 0 ≤ A 0 + d ∧ (∀ post : Int32 → TT → zX → Prop, (∀ u' x', zTT B u' → F u' → post (nI r) u' x') → cls post) ∧ ∀ (m : Nat → Int32) (y : zY), zM A m → ∀ post : Int32 → Int32 → (Nat → Int32) → zY → Prop, (∀ m' y', zM B m' → post (nI r) 0 m' y') → mod m y post
theorem z_char {k : Nat} (h : k < 65536) : vp_nar .char (nI k) = nI k := by
  unfold vp_nar
  rw [(pk_charN h).1]
theorem zK_u {f : Nat → Int32} (h : zK f) {k v : Nat} (hv : v < 65536) : zK (upd f k (nI v)) := by
  intro i hi
  unfold upd
  split
  · exact (pk_charN hv).2
  · exact h i hi
theorem zL_ins {f : Nat → Int32} {n : Nat} {a b : Nat → Nat} {v : Nat} (h : zL f n a) (hb : ∀ i : Nat, i < n → b i = a i) (hv : b n = v) : zL (upd f n (nI v)) (n + 1) b := by
  intro i hi
  unfold upd
  by_cases e : i = n
  · rw [if_pos e, e, hv]
  · rw [if_neg e, h i (by omega), hb i (by omega)]
theorem zL_c {f : Nat → Int32} {n m : Nat} {a b : Nat → Nat} (h : zL f n a) (hm : m = n) (hb : ∀ i : Nat, i < n → b i = a i) : zL f m b := by
  subst hm
  intro i hi
  rw [h i hi, hb i hi]
theorem zL_p {f : Nat → Int32} {n m : Nat} {a b : Nat → Nat} {k v : Nat} (h : zL f n a) (hm : m = n) (hb : ∀ i : Nat, i < n → i ≠ k → b i = a i) (hv : k < n → b k = v) : zL (upd f k (nI v)) m b := by
  subst hm
  intro i hi
  unfold upd
  by_cases e : i = k
  · subst e
    rw [if_pos rfl, hv hi]
  · rw [if_neg e, h i hi, hb i hi e]
theorem z_max {a b : Nat} (ha : a < 2 ^ 31) (hb : b < 2 ^ 31) : (if nI a < nI b then nI b else nI a) = nI (if b < a then a else b) := by
  by_cases e : a < b
  · rw [if_pos (nI_lt e hb), if_neg (by omega)]
  · rw [if_neg (nI_nlt (by omega) ha)]
    by_cases e2 : b < a
    · rw [if_pos e2]
    · rw [if_neg e2, show a = b by omega]
theorem k_isjN {x : Int32} {post : Int32 → Prop} (h : ¬ ∃ a : Nat, a < 8 ∧ x = nI a) (h0 : post 0) : wpX6_isJunction x post := k_isj (fun a ha e => absurd ⟨a, ha, e⟩ h) (fun _ => h0)
theorem k_hasN {x : Int32} {n : Nat} (hn : n ≤ 12) {post : Int32 → Prop} (h : ¬ ∃ a : Nat, a < n ∧ x = nI a) (h0 : post 0) : wpX4_has x (nI n) post := k_has hn (fun a ha e => absurd ⟨a, ha, e⟩ h) (fun _ => h0)
theorem k_pasN {x : Int32} {n : Nat} (hn : n ≤ 4) {post : Int32 → Prop} (h : ¬ ∃ a : Nat, a < n ∧ x = nI a) (h0 : post 0) : wpX2_has x (nI n) post := k_pas hn (fun a ha e => absurd ⟨a, ha, e⟩ h) (fun _ => h0)
theorem m_isjI {a : Nat} (ha : a < 8) {post : Int32 → Prop} (h1 : post 1) : wpX7_isJunction (nI a) post := m_isj (fun _ _ _ => h1) (fun h => absurd ⟨a, ha, rfl⟩ h)
theorem m_isjN {x : Int32} {post : Int32 → Prop} (h : ¬ ∃ a : Nat, a < 8 ∧ x = nI a) (h0 : post 0) : wpX7_isJunction x post := m_isj (fun a ha e => absurd ⟨a, ha, e⟩ h) (fun _ => h0)
theorem m_isSI {A : Nat → Nat} {m : Nat → Int32} (hM : zM A m) (hn : A 1 ≤ 12) {a : Nat} (ha : a < A 1) {post : Int32 → Prop} (h1 : post 1) : wpX7_isStreet (nI a) m post := m_isS hM hn (fun _ _ _ => h1) (fun h => absurd ⟨a, ha, rfl⟩ h)
theorem m_isSN {A : Nat → Nat} {m : Nat → Int32} (hM : zM A m) (hn : A 1 ≤ 12) {x : Int32} {post : Int32 → Prop} (h : ¬ ∃ a : Nat, a < A 1 ∧ x = nI a) (h0 : post 0) : wpX7_isStreet x m post := m_isS hM hn (fun a ha e => absurd ⟨a, ha, e⟩ h) (fun _ => h0)
theorem m_isPI {A : Nat → Nat} {m : Nat → Int32} (hM : zM A m) (hn : A 2 ≤ 4) {a : Nat} (ha : a < A 2) {post : Int32 → Prop} (h1 : post 1) : wpX7_isPlough (nI a) m post := m_isP hM hn (fun _ _ _ => h1) (fun h => absurd ⟨a, ha, rfl⟩ h)
theorem m_isPN {A : Nat → Nat} {m : Nat → Int32} (hM : zM A m) (hn : A 2 ≤ 4) {x : Int32} {post : Int32 → Prop} (h : ¬ ∃ a : Nat, a < A 2 ∧ x = nI a) (h0 : post 0) : wpX7_isPlough x m post := m_isP hM hn (fun a ha e => absurd ⟨a, ha, e⟩ h) (fun _ => h0)
theorem m_inI {a b k : Nat} (ha : a < 2 ^ 31) (hb : b < 2 ^ 31) (h1 : a ≤ k) (h2 : k ≤ b) {post : Int32 → Prop} (h : post 1) : wpX7_isIn (nI k) (nI a) (nI b) post := m_in ha hb (fun _ _ _ _ => h) (fun q => absurd ⟨k, h1, h2, rfl⟩ q)
theorem m_inN {x : Int32} {a b : Nat} (ha : a < 2 ^ 31) (hb : b < 2 ^ 31) {post : Int32 → Prop} (h : ¬ ∃ k : Nat, a ≤ k ∧ k ≤ b ∧ x = nI k) (h0 : post 0) : wpX7_isIn x (nI a) (nI b) post := m_in ha hb (fun k h1 h2 e => absurd ⟨k, h1, h2, e⟩ h) (fun _ => h0)
/-- not between a and b -/
theorem z_out {x : Int32} {a b : Nat} (ha : a < 2 ^ 31) (hb : b < 2 ^ 31) (h : ¬ ∃ k : Nat, a ≤ k ∧ k ≤ b ∧ x = nI k) : x < nI a ∨ (¬ x < nI a ∧ ¬ x ≤ nI b) := by
  rcases z_rng x a b ha hb with q | q | q
  · exact Or.inl q
  · by_cases e : x < nI a
    · exact Or.inl e
    · refine Or.inr ⟨e, fun k => ?_⟩
      rw [Int32.lt_iff_toInt_lt] at q
      rw [Int32.le_iff_toInt_le] at k
      omega
  · exact absurd q h
/-! a street -/
theorem k_conn {A : Nat → Nat} (hI : zI A) {lower higher : Nat → Int32} (hl : zL lower (A 1) (fun i => A (10 + 7 * i))) (hh : zL higher (A 1) (fun i => A (11 + 7 * i))) {u v : Nat} (hu : u < 8) (hv : v < 8) {post : Int32 → Prop} (h1 : (∃ i : Nat, i < A 1 ∧ A (10 + 7 * i) = u ∧ A (11 + 7 * i) = v) → post 1) (h0 : (¬ ∃ i : Nat, i < A 1 ∧ A (10 + 7 * i) = u ∧ A (11 + 7 * i) = v) → post 0) : wpX4_areConnected (nI u) (nI v) lower higher (nI (A 1)) post := by
  have hI1 := hI.1.1
  unfold wpX4_areConnected
  refine pk_loop (fun k i (_ : Unit) => wpX4_areConnected_L2 (nI u) (nI v) lower higher (nI (A 1)) post k (nI i)) (fun i _ => ∀ i' : Nat, i' < i → ¬ (A (10 + 7 * i') = u ∧ A (11 + 7 * i') = v)) (A 1) 0 () (Nat.zero_le _) (fun i hi => absurd hi (Nat.not_lt_zero i)) ?_ ?_
  · rintro k _ h
    exact br_t (nI_le (Nat.le_refl _) (by omega)) (h0 (fun ⟨i, hi, e⟩ => h i hi e))
  · rintro k i _ hi h ih
    have hs := hI.2.1 i hi
    have hstep : ¬ (A (10 + 7 * i) = u ∧ A (11 + 7 * i) = v) → ∀ i' : Nat, i' < i + 1 → ¬ (A (10 + 7 * i') = u ∧ A (11 + 7 * i') = v) := by
      intro q i' hi' r
      by_cases e : i' = i
      · subst e; exact q r
      · exact h i' (by omega) r
    refine br_f (nI_ge hi (by omega)) (br_f (nI_ge (b := 12) (by omega) (by omega)) ⟨vp_in_nI (by omega) (by omega), ?_⟩)
    rw [nI_clamp (by omega), hl i hi, hh i hi, nI_1]
    dsimp only
    by_cases e1 : A (10 + 7 * i) = u
    · refine br_m (by rw [e1]) ⟨vp_in_nI (by omega) (by omega), ?_⟩
      by_cases e2 : A (11 + 7 * i) = v
      · exact br_m (by rw [e2]) (h1 ⟨i, hi, e1, e2⟩)
      · exact br_n (fun q => e2 ((nI_eq (by omega) (by omega)).mp q)) (ih () (hstep (fun q => e2 q.2)))
    · exact br_n (fun q => e1 ((nI_eq (by omega) (by omega)).mp q)) (ih () (hstep (fun q => e1 q.1)))
theorem m_conn {A : Nat → Nat} (hI : zI A) {m : Nat → Int32} (hM : zM A m) {a b : Nat} (ha : a < 8) (hb : b < 8) {post : Int32 → Prop} (h1 : (∃ i : Nat, i < A 1 ∧ A (10 + 7 * i) = (if a < b then a else b) ∧ A (11 + 7 * i) = (if b < a then a else b)) → post 1) (h0 : (¬ ∃ i : Nat, i < A 1 ∧ A (10 + 7 * i) = (if a < b then a else b) ∧ A (11 + 7 * i) = (if b < a then a else b)) → post 0) : wpX7_joins (nI a) (nI b) m post := by
  have hI1 := hI.1.1
  obtain ⟨u, eu⟩ : ∃ q, q = (if a < b then a else b) := ⟨_, rfl⟩
  obtain ⟨v, ev⟩ : ∃ q, q = (if b < a then a else b) := ⟨_, rfl⟩
  have hu : u < 8 := by rw [eu]; split <;> omega
  have hv : v < 8 := by rw [ev]; split <;> omega
  rw [← eu, ← ev] at h1 h0
  unfold wpX7_joins
  refine pk_loop (fun k i (_ : Unit) => wpX7_joins_L2 (nI a) (nI b) m post k (nI i)) (fun i _ => ∀ i' : Nat, i' < i → ¬ (A (10 + 7 * i') = u ∧ A (11 + 7 * i') = v)) (A 1) 0 () (Nat.zero_le _) (fun i hi => absurd hi (Nat.not_lt_zero i)) ?_ ?_
  · rintro k _ h
    refine ⟨by unfold vp_in; decide, ?_⟩
    rw [show (1 : Int32).toNatClampNeg = 1 from rfl, hM 1 (by omega)]
    exact br_t (nI_le (Nat.le_refl _) (by omega)) (h0 (fun ⟨i, hi, e⟩ => h i hi e))
  · rintro k i _ hi h ih
    have hs := hI.2.1 i hi
    have hstep : ¬ (A (10 + 7 * i) = u ∧ A (11 + 7 * i) = v) → ∀ i' : Nat, i' < i + 1 → ¬ (A (10 + 7 * i') = u ∧ A (11 + 7 * i') = v) := by
      intro q i' hi' r
      by_cases e : i' = i
      · subst e; exact q r
      · exact h i' (by omega) r
    refine ⟨by unfold vp_in; decide, ?_⟩
    rw [show (1 : Int32).toNatClampNeg = 1 from rfl, hM 1 (by omega)]
    refine br_f (nI_ge hi (by omega)) (m_of hM i 0 rfl (by omega) (m_lesser (by omega) (by omega) ?_))
    rw [← eu, show 10 + 7 * i + 0 = 10 + 7 * i by omega, nI_1]
    by_cases e1 : A (10 + 7 * i) = u
    · refine br_m (by rw [e1]) (m_of hM i 1 rfl (by omega) (m_greater (by omega) (by omega) ?_))
      rw [← ev, show 10 + 7 * i + 1 = 11 + 7 * i by omega]
      by_cases e2 : A (11 + 7 * i) = v
      · exact br_m (by rw [e2]) (h1 ⟨i, hi, e1, e2⟩)
      · exact br_n (fun q => e2 ((nI_eq (by omega) (by omega)).mp q)) (ih () (hstep (fun q => e2 q.2)))
    · exact br_n (fun q => e1 ((nI_eq (by omega) (by omega)).mp q)) (ih () (hstep (fun q => e1 q.1)))
/-- a town with one street more -/
def zst (A : Nat → Nat) (u v k l : Nat) : Nat → Nat := zu (zu (zu (zu (zu A (10 + 7 * A 1) u) (11 + 7 * A 1) v) (12 + 7 * A 1) k) (13 + 7 * A 1) l) 1 (A 1 + 1)
theorem zst_1 {A : Nat → Nat} {u v k l : Nat} : zst A u v k l 1 = A 1 + 1 := zu_s
theorem zst_o {A : Nat → Nat} {u v k l j : Nat} (h1 : j ≠ 1) (h : j < 10 + 7 * A 1 ∨ 14 + 7 * A 1 ≤ j) : zst A u v k l j = A j := by
  unfold zst
  rw [zu_n h1, zu_n (by omega), zu_n (by omega), zu_n (by omega), zu_n (by omega)]
theorem zst_a {A : Nat → Nat} {u v k l : Nat} : zst A u v k l (10 + 7 * A 1) = u := by
  unfold zst
  rw [zu_n (by omega), zu_n (by omega), zu_n (by omega), zu_n (by omega), zu_s]
theorem zst_b {A : Nat → Nat} {u v k l : Nat} : zst A u v k l (11 + 7 * A 1) = v := by
  unfold zst
  rw [zu_n (by omega), zu_n (by omega), zu_n (by omega), zu_s]
theorem zst_c {A : Nat → Nat} {u v k l : Nat} : zst A u v k l (12 + 7 * A 1) = k := by
  unfold zst
  rw [zu_n (by omega), zu_n (by omega), zu_s]
theorem zst_d {A : Nat → Nat} {u v k l : Nat} : zst A u v k l (13 + 7 * A 1) = l := by
  unfold zst
  rw [zu_n (by omega), zu_s]
theorem zst_z {A : Nat → Nat} (hI : zI A) (h12 : A 1 < 12) {u v k l c : Nat} (h4 : 4 ≤ c) (h7 : c < 7) : zst A u v k l (10 + 7 * A 1 + c) = 0 := by
  rw [zst_o (by omega) (by omega)]
  exact hI.2.2.1 (A 1) c (Nat.le_refl _) h12 h7
theorem zst_I {A : Nat → Nat} (hI : zI A) (h12 : A 1 < 12) {u v k l : Nat} (huv : u < v) (hv : v < 8) (hk : 97 ≤ k) (hk9 : k ≤ 99) (hl : 1 ≤ l) (hl9 : l ≤ 9) (hno : ¬ ∃ i : Nat, i < A 1 ∧ A (10 + 7 * i) = u ∧ A (11 + 7 * i) = v) : zI (zst A u v k l) := by
  have hA := hI.1
  have e0 : zst A u v k l 0 = A 0 := zst_o (by omega) (by omega)
  have e2 : zst A u v k l 2 = A 2 := zst_o (by omega) (by omega)
  refine ⟨?_, fun i hi => ?_, fun i c h1 h2 h3 => ?_, fun i j hi hj a b => ?_, fun j hj => ?_, fun j c h1 h2 h3 => ?_⟩
  · rw [zst_1, e2, zst_o (by omega) (by omega), zst_o (by omega) (by omega), zst_o (by omega) (by omega)]
    omega
  · rw [zst_1] at hi
    by_cases e : i = A 1
    · subst e
      have z4 := zst_z hI h12 (u := u) (v := v) (k := k) (l := l) (c := 4) (by omega) (by omega)
      have z5 := zst_z hI h12 (u := u) (v := v) (k := k) (l := l) (c := 5) (by omega) (by omega)
      rw [show 10 + 7 * A 1 + 4 = 14 + 7 * A 1 by omega] at z4
      rw [show 10 + 7 * A 1 + 5 = 15 + 7 * A 1 by omega] at z5
      rw [zst_a, zst_b, zst_c, zst_d, z4, z5]
      omega
    · have g := hI.2.1 i (by omega)
      rw [zst_o (by omega) (by omega), zst_o (by omega) (by omega), zst_o (by omega) (by omega), zst_o (by omega) (by omega), zst_o (by omega) (by omega), zst_o (by omega) (by omega), e0]
      exact g
  · rw [zst_1] at h1
    rw [zst_o (by omega) (by omega)]
    exact hI.2.2.1 i c (by omega) h2 h3
  · rw [zst_1] at hi hj
    by_cases ei : i = A 1
    · subst ei
      by_cases ej : j = A 1
      · exact ej.symm
      · rw [zst_a, zst_o (by omega) (by omega)] at a
        rw [zst_b, zst_o (by omega) (by omega)] at b
        exact absurd ⟨j, by omega, a.symm, b.symm⟩ hno
    · by_cases ej : j = A 1
      · subst ej
        rw [zst_a, zst_o (by omega) (by omega)] at a
        rw [zst_b, zst_o (by omega) (by omega)] at b
        exact absurd ⟨i, by omega, a, b⟩ hno
      · rw [zst_o (by omega) (by omega), zst_o (by omega) (by omega)] at a
        rw [zst_o (by omega) (by omega), zst_o (by omega) (by omega)] at b
        exact hI.2.2.2.1 i j (by omega) (by omega) a b
  · rw [e2] at hj
    have g := zI_pl hI hj
    rw [zst_1, zst_o (by omega) (by omega), zst_o (by omega) (by omega), zst_o (by omega) (by omega), zst_o (by omega) (by omega)]
    refine ⟨g.1, g.2.1, fun q => ?_, g.2.2.2.1, fun c hc => ?_⟩
    · have := g.2.2.1 q
      omega
    · rw [zst_o (by omega) (by omega)]
      have := g.2.2.2.2 c hc
      omega
  · rw [e2] at h1
    rw [zst_o (by omega) (by omega)]
    exact hI.2.2.2.2.2 j c h1 h2 h3
theorem m_st20 {x1 x2 x3 x4 thr : Int32} {m : Nat → Int32} {post : Int32 → Int32 → (Nat → Int32) → Prop} (h : post 0 1 m) : wpX7_streets_L20 x1 x2 x3 x4 post 1 thr m := by
  unfold wpX7_streets_L20
  exact m_yes (br_n (by decide) h)
theorem m_st60 {x1 x2 x3 x4 thr : Int32} {m : Nat → Int32} {post : Int32 → Int32 → (Nat → Int32) → Prop} (h : post 0 2 m) : wpX7_streets_L60 x1 x2 x3 x4 post 1 thr m := by
  unfold wpX7_streets_L60
  exact m_yes (br_n (by decide) h)
theorem m_st93 {x1 x2 x3 x4 thr : Int32} {m : Nat → Int32} {post : Int32 → Int32 → (Nat → Int32) → Prop} (h : post 0 3 m) : wpX7_streets_L93 x1 x2 x3 x4 post 1 thr m := by
  unfold wpX7_streets_L93
  exact m_yes (br_f (by decide) h)
theorem m_put {A : Nat → Nat} (h12 : A 1 < 12) {m : Nat → Int32} (hM : zM A m) {a b k l : Nat} (ha : a < 8) (hb : b < 8) {thr : Int32} {post : Int32 → Int32 → (Nat → Int32) → Prop} (h : ∀ m', zM (zst A (if a < b then a else b) (if b < a then a else b) k l) m' → post (nI (A 1)) 0 m') : wpX7_streets_L93 (nI a) (nI b) (nI k) (nI l) post 0 thr m := by
  unfold wpX7_streets_L93
  refine m_no (br_t rfl ⟨by unfold vp_in; decide, m_lesser (by omega) (by omega) ?_⟩)
  rw [show (1 : Int32).toNatClampNeg = 1 from rfl, hM 1 (by omega)]
  refine m_sets hM (A 1) 0 _ rfl rfl (by omega) (fun m1 h1 => m_greater (by omega) (by omega) (m_sets h1 (A 1) 1 _ rfl rfl (by omega) (fun m2 h2 => m_sets h2 (A 1) 2 k rfl rfl (by omega) (fun m3 h3 => m_sets h3 (A 1) 3 l rfl rfl (by omega) (fun m4 h4 => ⟨by unfold vp_in; decide, by unfold vp_in; decide, ?_⟩)))))
  have e1 : m4 1 = nI (A 1) := by
    rw [h4 1 (by omega), zu_n (by omega), zu_n (by omega), zu_n (by omega), zu_n (by omega)]
  rw [e1, nI_1]
  have h5 := zM_u h4 1 (A 1 + 1)
  rw [show 10 + 7 * A 1 + 0 = 10 + 7 * A 1 by omega, show 10 + 7 * A 1 + 1 = 11 + 7 * A 1 by omega, show 10 + 7 * A 1 + 2 = 12 + 7 * A 1 by omega, show 10 + 7 * A 1 + 3 = 13 + 7 * A 1 by omega] at h5
  exact h _ h5
theorem zst_Go {A : Nat → Nat} (hI : zI A) (h12 : A 1 < 12) {u v k l : Nat} : zGo A (zst A u v k l) := by
  have hA := hI.1
  have z6 := zst_z hI h12 (u := u) (v := v) (k := k) (l := l) (c := 6) (by omega) (by omega)
  rw [show 10 + 7 * A 1 + 6 = 16 + 7 * A 1 by omega] at z6
  have e2 : zst A u v k l 2 = A 2 := zst_o (by omega) (by omega)
  refine ⟨by rw [zst_1]; omega, by omega, fun h => ⟨?_, fun j hj hb => ?_⟩⟩
  · rw [zst_1, zst_o (j := 9) (by omega) (by omega), ← h.1]
    show zsum _ (A 1) + zst A u v k l (16 + 7 * A 1) = _
    rw [z6, Nat.add_zero]
    exact zsum_c _ (fun i hi => zst_o (by omega) (by omega))
  · rw [e2] at hj
    rw [zst_o (by omega) (by omega)] at hb
    have hi := (zI_pl hI hj).2.2.1 hb
    rw [zst_o (j := 94 + 9 * j) (by omega) (by omega), zst_o (j := 96 + 9 * j) (by omega) (by omega), zst_o (j := 10 + 7 * A (96 + 9 * j)) (by omega) (by omega), zst_o (j := 11 + 7 * A (96 + 9 * j)) (by omega) (by omega)]
    exact h.2 j hj hb
theorem o_street {A : Nat → Nat} {t_time t_store t_rate t_force t_cleared t_ploughed t_failed t_complained : Int32} {s_lower s_higher s_kind s_size s_snow s_saltEnd s_complained s_clearings : Nat → Int32} {s_count : Int32} {q_place q_target q_minutesLeft q_waiting q_orders : Nat → Int32} {q_count : Int32} (hT : zTc A t_time t_store t_rate t_force t_cleared t_ploughed t_failed t_complained s_lower s_higher s_kind s_size s_snow s_saltEnd s_complained s_clearings s_count q_place q_target q_minutesLeft q_waiting q_orders q_count) (x1 x2 x3 x4 thr : Int32) (w : zX) :
    zAg A [(-1, 1), (-2, 2), (-4, 3)] 0 (x1 = nI 0 → x2 = nI 1 → x3 = nI 97 → x4 = nI 3 → 1 ≤ A 1) (fun B => 1 ≤ B 1) (fun u => u.1 = t_time ∧ u.2.1 = t_store ∧ u.2.2.1 = t_rate ∧ u.2.2.2.1 = t_force ∧ u.2.2.2.2.1 = t_cleared ∧ u.2.2.2.2.2.1 = t_ploughed ∧ u.2.2.2.2.2.2.1 = t_failed ∧ u.2.2.2.2.2.2.2.1 = t_complained ∧ u.2.2.2.2.2.2.2.2.2.2.2.2.2.2.2.2.2.1 = q_place ∧ u.2.2.2.2.2.2.2.2.2.2.2.2.2.2.2.2.2.2.1 = q_target ∧ u.2.2.2.2.2.2.2.2.2.2.2.2.2.2.2.2.2.2.2.1 = q_minutesLeft ∧ u.2.2.2.2.2.2.2.2.2.2.2.2.2.2.2.2.2.2.2.2.1 = q_waiting ∧ u.2.2.2.2.2.2.2.2.2.2.2.2.2.2.2.2.2.2.2.2.2.1 = q_orders ∧ u.2.2.2.2.2.2.2.2.2.2.2.2.2.2.2.2.2.2.2.2.2.2 = q_count) (t_time, t_store, t_rate, t_force, t_cleared, t_ploughed, t_failed, t_complained, s_lower, s_higher, s_kind, s_size, s_snow, s_saltEnd, s_complained, s_clearings, s_count, q_place, q_target, q_minutesLeft, q_waiting, q_orders, q_count) w (fun post => wpX5_putStreet x1 x2 x3 x4 s_lower s_higher s_kind s_size s_snow s_saltEnd s_complained s_clearings s_count (fun r a b c d e f g h i => post r (t_time, t_store, t_rate, t_force, t_cleared, t_ploughed, t_failed, t_complained, a, b, c, d, e, f, g, h, i, q_place, q_target, q_minutesLeft, q_waiting, q_orders, q_count) w)) (fun m y post => wpX7_streets x1 x2 x3 x4 thr m (fun r k m' => post r k m' y)) := by
  obtain ⟨hI, hTt, hS, hQ, hK, C, hC, hC4⟩ := hT
  have hA := hI.1
  obtain ⟨rfl, hl, hh, hk, hz, hsn, hse, hco⟩ := hS
  by_cases j1 : ∃ a : Nat, a < 8 ∧ x1 = nI a
  case neg => exact Or.inl ⟨-1, 1, by simp, (fun e _ _ _ => absurd ⟨0, by omega, e⟩ j1), fun post hp => by unfold wpX5_putStreet; exact k_isjN j1 (br_t rfl hp), fun m y hM post hp => by unfold wpX7_streets; exact m_isjN j1 (br_t rfl (m_st20 hp))⟩
  obtain ⟨a, ha, rfl⟩ := j1
  by_cases j2 : ∃ b : Nat, b < 8 ∧ x2 = nI b
  case neg => exact Or.inl ⟨-1, 1, by simp, (fun _ e _ _ => absurd ⟨1, by omega, e⟩ j2), fun post hp => by unfold wpX5_putStreet; exact k_isjI ha (br_f (by decide) (k_isjN j2 (br_m rfl hp))), fun m y hM post hp => by unfold wpX7_streets; exact m_isjI ha (br_f (by decide) (m_isjN j2 (br_m rfl (m_st20 hp))))⟩
  obtain ⟨b, hb, rfl⟩ := j2
  have mst : ∀ {m : Nat → Int32} (post : Int32 → Int32 → (Nat → Int32) → Prop), ((nI a = nI b → wpX7_streets_L60 (nI a) (nI b) x3 x4 post 1 0 m) ∧ (¬ nI a = nI b → wpX7_isIn x3 97 99 (fun r16 => ((r16 = 0 → wpX7_streets_L60 (nI a) (nI b) x3 x4 post 1 0 m) ∧ (¬ r16 = 0 → wpX7_isIn x4 1 9 (fun r17 => ((¬ r17 = 0 → wpX7_streets_L60 (nI a) (nI b) x3 x4 post 0 0 m) ∧ (r17 = 0 → wpX7_streets_L60 (nI a) (nI b) x3 x4 post 1 0 m)))))))) → wpX7_streets (nI a) (nI b) x3 x4 thr m post := by
    intro m post hp
    unfold wpX7_streets
    refine m_isjI ha (br_f (by decide) (m_isjI hb (br_n (by decide) ?_)))
    unfold wpX7_streets_L20
    exact m_no (br_m rfl hp)
  have kst : ∀ post : Int32 → (Nat → Int32) → (Nat → Int32) → (Nat → Int32) → (Nat → Int32) → (Nat → Int32) → (Nat → Int32) → (Nat → Int32) → (Nat → Int32) → Int32 → Prop, _ → wpX5_putStreet (nI a) (nI b) x3 x4 s_lower s_higher s_kind s_size s_snow s_saltEnd s_complained s_clearings (nI (A 1)) post := fun post hp => by
    unfold wpX5_putStreet
    exact k_isjI ha (br_f (by decide) (k_isjI hb (br_n (by decide) hp)))
  by_cases eab : a = b
  · subst eab
    exact Or.inl ⟨-2, 2, by simp, (fun e1 e2 _ _ => absurd (e1.symm.trans e2) (by decide)), fun post hp => kst _ (br_t rfl hp), fun m y hM post hp => mst _ (br_t rfl (m_st60 hp))⟩
  have eab' : ¬ nI a = nI b := fun q => eab ((nI_eq (by omega) (by omega)).mp q)
  by_cases j3 : ∃ k : Nat, 97 ≤ k ∧ k ≤ 99 ∧ x3 = nI k
  case neg =>
    refine Or.inl ⟨-2, 2, by simp, (fun _ _ e _ => absurd ⟨97, by omega, by omega, e⟩ j3), fun post hp => kst _ (br_f eab' ?_), fun m y hM post hp => mst _ (br_f eab' (m_inN (a := 97) (b := 99) (by omega) (by omega) j3 (br_t rfl (m_st60 hp))))⟩
    rcases z_rng x3 97 99 (by omega) (by omega) with q | q | q
    · exact br_t q hp
    · exact ⟨fun _ => hp, fun _ => br_t q hp⟩
    · exact absurd q j3
  obtain ⟨k, hk1, hk2, rfl⟩ := j3
  have hk97 : ¬ nI k < 97 := nI_nlt (b := 97) hk1 (by omega)
  have hk99 : ¬ 99 < nI k := nI_nlt (a := 99) hk2 (by omega)
  by_cases j4 : ∃ k : Nat, 1 ≤ k ∧ k ≤ 9 ∧ x4 = nI k
  case neg =>
    refine Or.inl ⟨-2, 2, by simp, (fun _ _ _ e => absurd ⟨3, by omega, by omega, e⟩ j4), fun post hp => kst _ (br_f eab' (br_f hk97 (br_f hk99 ?_))), fun m y hM post hp => mst _ (br_f eab' (m_inI (a := 97) (b := 99) (by omega) (by omega) hk1 hk2 (br_f (by decide) (m_inN (a := 1) (b := 9) (by omega) (by omega) j4 (br_m rfl (m_st60 hp))))))⟩
    rcases z_out (a := 1) (b := 9) (by omega) (by omega) j4 with q | ⟨q1, q2⟩
    · exact br_t q hp
    · exact br_f q1 (br_f q2 hp)
  obtain ⟨l, hl1, hl2, rfl⟩ := j4
  obtain ⟨u, eu⟩ : ∃ q, q = (if a < b then a else b) := ⟨_, rfl⟩
  obtain ⟨v, ev⟩ : ∃ q, q = (if b < a then a else b) := ⟨_, rfl⟩
  have huv : u < v := by rw [eu, ev]; split <;> split <;> omega
  have hv8 : v < 8 := by rw [ev]; split <;> omega
  have kst2 : ∀ post : Int32 → (Nat → Int32) → (Nat → Int32) → (Nat → Int32) → (Nat → Int32) → (Nat → Int32) → (Nat → Int32) → (Nat → Int32) → (Nat → Int32) → Int32 → Prop, wpX4_areConnected (nI u) (nI v) s_lower s_higher (nI (A 1)) (fun r3 => ((r3 = 0 → wpX4_put (nI u) (nI v) (nI k) (nI l) s_lower s_higher s_kind s_size s_snow s_saltEnd s_complained s_clearings (nI (A 1)) (fun r4 a b c d e f g h i => post r4 a b c d e f g h i)) ∧ (¬ r3 = 0 → post (-4) s_lower s_higher s_kind s_size s_snow s_saltEnd s_complained s_clearings (nI (A 1))))) → wpX5_putStreet (nI a) (nI b) (nI k) (nI l) s_lower s_higher s_kind s_size s_snow s_saltEnd s_complained s_clearings (nI (A 1)) post := by
    intro post hp
    refine kst _ (br_f eab' (br_f hk97 (br_f hk99 (br_f (nI_nlt (b := 1) hl1 (by omega)) (br_t (nI_le (b := 9) hl2 (by omega)) ?_)))))
    rw [z_min (by omega) (by omega), z_max (by omega) (by omega), ← eu, ← ev]
    exact hp
  have mst2 : ∀ {m : Nat → Int32} (post : Int32 → Int32 → (Nat → Int32) → Prop), (vp_in 1 130 ∧ (((m (1 : Int32).toNatClampNeg) = 12 → wpX7_streets_L93 (nI a) (nI b) (nI k) (nI l) post 1 0 m) ∧ (¬ (m (1 : Int32).toNatClampNeg) = 12 → wpX7_joins (nI a) (nI b) m (fun r15 => ((r15 = 0 → wpX7_streets_L93 (nI a) (nI b) (nI k) (nI l) post 0 0 m) ∧ (¬ r15 = 0 → wpX7_streets_L93 (nI a) (nI b) (nI k) (nI l) post 1 0 m)))))) → wpX7_streets (nI a) (nI b) (nI k) (nI l) thr m post := by
    intro m post hp
    refine mst _ (br_f eab' (m_inI (a := 97) (b := 99) (by omega) (by omega) hk1 hk2 (br_f (by decide) (m_inI (a := 1) (b := 9) (by omega) (by omega) hl1 hl2 (br_n (by decide) ?_)))))
    unfold wpX7_streets_L60
    exact m_no (br_m rfl hp)
  have m1 : ∀ {m : Nat → Int32}, zM A m → m (1 : Int32).toNatClampNeg = nI (A 1) := fun hM => hM 1 (by omega)
  by_cases j5 : ∃ i : Nat, i < A 1 ∧ A (10 + 7 * i) = u ∧ A (11 + 7 * i) = v
  · refine Or.inl ⟨-4, 3, by simp, (fun _ _ _ _ => by obtain ⟨i, hi, -⟩ := j5; omega), fun post hp => kst2 _ (k_conn hI hl hh (by omega) hv8 (fun _ => br_f (by decide) hp) (fun q => absurd j5 q)), fun m y hM post hp => mst2 _ ⟨by unfold vp_in; decide, fun _ => m_st93 hp, fun _ => m_conn hI hM ha hb (fun _ => br_f (by decide) (m_st93 hp)) (fun q => ?_)⟩⟩
    rw [← eu, ← ev] at q
    exact absurd j5 q
  by_cases e12 : A 1 = 12
  · refine Or.inl ⟨-4, 3, by simp, (fun _ _ _ _ => by omega), fun post hp => kst2 _ (k_conn hI hl hh (by omega) hv8 (fun q => absurd q j5) (fun _ => br_t rfl ?_)), fun m y hM post hp => mst2 _ ⟨by unfold vp_in; decide, br_t (by rw [m1 hM, e12]; rfl) (m_st93 hp)⟩⟩
    unfold wpX4_put
    refine br_f (nI_pos (by omega)) (br_f ?_ hp)
    exact nI_nlt (b := 12) (by omega) (by omega)
  have h12 : A 1 < 12 := by omega
  have z4 := zst_z hI h12 (u := u) (v := v) (k := k) (l := l) (c := 4) (by omega) (by omega)
  have z5 := zst_z hI h12 (u := u) (v := v) (k := k) (l := l) (c := 5) (by omega) (by omega)
  have z6 := zst_z hI h12 (u := u) (v := v) (k := k) (l := l) (c := 6) (by omega) (by omega)
  rw [show 10 + 7 * A 1 + 4 = 14 + 7 * A 1 by omega] at z4
  rw [show 10 + 7 * A 1 + 5 = 15 + 7 * A 1 by omega] at z5
  rw [show 10 + 7 * A 1 + 6 = 16 + 7 * A 1 by omega] at z6
  have hIB := zst_I hI h12 huv hv8 hk1 hk2 hl1 hl2 j5
  have e0 : zst A u v k l 0 = A 0 := zst_o (by omega) (by omega)
  refine Or.inr ⟨zst A u v k l, A 1, by omega, ⟨⟨by omega, zst_Go hI h12⟩, by show 1 ≤ zst A u v k l 1; rw [zst_1]; omega⟩, by rw [e0]; omega, fun post hp => kst2 _ (k_conn hI hl hh (by omega) hv8 (fun q => absurd q j5) (fun _ => br_t rfl ?_)), fun m y hM post hp => mst2 _ ⟨by unfold vp_in; decide, br_f (fun q => e12 ((nI_eq (a := A 1) (b := 12) (by omega) (by omega)).mp ((m1 hM).symm.trans q))) (m_conn hI hM ha hb (fun q => ?_) (fun _ => br_t rfl (m_put h12 hM ha hb (fun m' hm' => hp m' y ?_))))⟩⟩
  · unfold wpX4_put
    have hin : vp_in (nI (A 1)) 12 := vp_in_nI h12 (by omega)
    refine br_f (nI_pos (by omega)) (br_t (nI_lt (b := 12) h12 (by omega)) ⟨hin, hin, hin, hin, hin, hin, hin, hin, hp _ w ?_ ⟨rfl, rfl, rfl, rfl, rfl, rfl, rfl, rfl, rfl, rfl, rfl, rfl, rfl, rfl⟩⟩)
    rw [nI_clamp (by omega), z_char (by omega), nI_1]
    have hS' : zS (zst A u v k l) (upd s_lower (A 1) (nI u)) (upd s_higher (A 1) (nI v)) (upd s_kind (A 1) (nI k)) (upd s_size (A 1) (nI l)) (upd s_snow (A 1) (nI 0)) (upd s_saltEnd (A 1) (nI 0)) (upd s_complained (A 1) (nI 0)) (nI (A 1 + 1)) := by
      unfold zS
      rw [zst_1]
      exact ⟨rfl, zL_ins hl (fun i hi => zst_o (by omega) (by omega)) zst_a, zL_ins hh (fun i hi => zst_o (by omega) (by omega)) zst_b, zL_ins hk (fun i hi => zst_o (by omega) (by omega)) zst_c, zL_ins hz (fun i hi => zst_o (by omega) (by omega)) zst_d, zL_ins hsn (fun i hi => zst_o (by omega) (by omega)) z4, zL_ins hse (fun i hi => zst_o (by omega) (by omega)) z5, zL_ins hco (fun i hi => zst_o (by omega) (by omega)) z6⟩
    have hQ' : zQ (zst A u v k l) q_place q_target q_minutesLeft q_waiting q_orders q_count := by
      have e2 : zst A u v k l 2 = A 2 := zst_o (by omega) (by omega)
      have q0 := hQ.1
      rw [q0] at hQ ⊢
      have q9 := zQ_eq hI e2 (fun j hj => zst_o (by omega) (by omega)) hQ
      rw [e2] at q9
      exact q9
    have hT' : zT (zst A u v k l) t_time t_store t_rate t_force t_cleared t_ploughed t_failed t_complained := by
      unfold zT
      rw [zst_o (by omega) (by omega), zst_o (by omega) (by omega), zst_o (by omega) (by omega), zst_o (by omega) (by omega), zst_o (by omega) (by omega), zst_o (by omega) (by omega), zst_o (by omega) (by omega), zst_o (by omega) (by omega)]
      exact hTt
    refine ⟨hIB, hT', hS', hQ', zK_u hK (by omega), fun i => if i = A 1 then 0 else C i, ?_, fun i hi => ?_⟩
    · show zL (upd s_clearings (A 1) (nI 0)) (zst A u v k l 1) _
      rw [zst_1]
      exact zL_ins hC (fun i hi => if_neg (by omega)) (if_pos rfl)
    · rw [zst_1] at hi
      rw [e0]
      dsimp only
      split
      · omega
      · exact hC4 i (by omega)
  · rw [← eu, ← ev] at q
    exact absurd q j5
  · rw [← eu, ← ev] at hm'
    exact hm'
/-! a plough -/
/-- a town with one plough more -/
def zpg (A : Nat → Nat) (u : Nat) : Nat → Nat := zu (zu A (94 + 9 * A 2) u) 2 (A 2 + 1)
theorem zpg_2 {A : Nat → Nat} {u : Nat} : zpg A u 2 = A 2 + 1 := zu_s
theorem zpg_a {A : Nat → Nat} {u : Nat} : zpg A u (94 + 9 * A 2) = u := by
  unfold zpg
  rw [zu_n (by omega), zu_s]
theorem zpg_o {A : Nat → Nat} {u k : Nat} (h2 : k ≠ 2) (h : k ≠ 94 + 9 * A 2) : zpg A u k = A k := by
  unfold zpg
  rw [zu_n h2, zu_n h]
theorem zpg_z {A : Nat → Nat} (hI : zI A) (h4 : A 2 < 4) {u c : Nat} (hc : 0 < c) (hc9 : c < 9) : zpg A u (94 + 9 * A 2 + c) = 0 := by
  rw [zpg_o (by omega) (by omega)]
  exact hI.2.2.2.2.2 (A 2) c (Nat.le_refl _) h4 hc9
theorem zpg_I {A : Nat → Nat} (hI : zI A) (h4 : A 2 < 4) {u : Nat} (hu : u < 8) : zI (zpg A u) := by
  have hA := hI.1
  have e0 : zpg A u 0 = A 0 := zpg_o (by omega) (by omega)
  have e1 : zpg A u 1 = A 1 := zpg_o (by omega) (by omega)
  refine ⟨?_, fun i hi => ?_, fun i c h1 h2 h3 => ?_, fun i j hi hj a b => ?_, fun j hj => ?_, fun j c h1 h2 h3 => ?_⟩
  · rw [zpg_2, e1, zpg_o (by omega) (by omega), zpg_o (by omega) (by omega), zpg_o (by omega) (by omega)]
    omega
  · rw [e1] at hi
    rw [zpg_o (by omega) (by omega), zpg_o (by omega) (by omega), zpg_o (by omega) (by omega), zpg_o (by omega) (by omega), zpg_o (by omega) (by omega), zpg_o (by omega) (by omega), e0]
    exact hI.2.1 i hi
  · rw [e1] at h1
    rw [zpg_o (by omega) (by omega)]
    exact hI.2.2.1 i c h1 h2 h3
  · rw [e1] at hi hj
    rw [zpg_o (by omega) (by omega), zpg_o (by omega) (by omega)] at a
    rw [zpg_o (by omega) (by omega), zpg_o (by omega) (by omega)] at b
    exact hI.2.2.2.1 i j hi hj a b
  · rw [zpg_2] at hj
    by_cases e : j = A 2
    · subst e
      have z1 := zpg_z hI h4 (u := u) (c := 1) (by omega) (by omega)
      have z3 := zpg_z hI h4 (u := u) (c := 3) (by omega) (by omega)
      rw [show 94 + 9 * A 2 + 1 = 95 + 9 * A 2 by omega] at z1
      rw [show 94 + 9 * A 2 + 3 = 97 + 9 * A 2 by omega] at z3
      rw [zpg_a, z1, z3]
      exact ⟨hu, by omega, fun q => absurd q (Nat.lt_irrefl 0), by omega, fun k hk => absurd hk (Nat.not_lt_zero k)⟩
    · have g := zI_pl hI (j := j) (by omega)
      rw [e1, zpg_o (by omega) (by omega), zpg_o (by omega) (by omega), zpg_o (by omega) (by omega), zpg_o (by omega) (by omega)]
      refine ⟨g.1, g.2.1, g.2.2.1, g.2.2.2.1, fun c hc => ?_⟩
      have h5 := g.2.2.2.1
      rw [zpg_o (by omega) (by omega)]
      exact g.2.2.2.2 c hc
  · rw [zpg_2] at h1
    rw [zpg_o (by omega) (by omega)]
    exact hI.2.2.2.2.2 j c (by omega) h2 h3
/-- the streets' side of a town whose streets stay -/
theorem zS_eq {A B : Nat → Nat} (hA : A 1 ≤ 12) (h1 : B 1 = A 1) (he : ∀ k : Nat, 10 ≤ k → k < 94 → B k = A k) {lower higher kind size snow saltEnd complained : Nat → Int32} {count : Int32} (h : zS A lower higher kind size snow saltEnd complained count) : zS B lower higher kind size snow saltEnd complained count := by
  obtain ⟨a, b, c, d, e, f, g, i⟩ := h
  unfold zS
  rw [h1]
  exact ⟨a, zL_c b rfl (fun i hi => he _ (by omega) (by omega)), zL_c c rfl (fun i hi => he _ (by omega) (by omega)), zL_c d rfl (fun i hi => he _ (by omega) (by omega)), zL_c e rfl (fun i hi => he _ (by omega) (by omega)), zL_c f rfl (fun i hi => he _ (by omega) (by omega)), zL_c g rfl (fun i hi => he _ (by omega) (by omega)), zL_c i rfl (fun i hi => he _ (by omega) (by omega))⟩
theorem zT_eq {A B : Nat → Nat} (h0 : B 0 = A 0) (he : ∀ k : Nat, 3 ≤ k → k < 10 → B k = A k) {a b c d e f g i : Int32} (h : zT A a b c d e f g i) : zT B a b c d e f g i := by
  unfold zT
  rw [h0, he 3 (by omega) (by omega), he 4 (by omega) (by omega), he 5 (by omega) (by omega), he 6 (by omega) (by omega), he 7 (by omega) (by omega), he 8 (by omega) (by omega), he 9 (by omega) (by omega)]
  exact h
theorem m_pl13 {x1 thr : Int32} {m : Nat → Int32} {post : Int32 → Int32 → (Nat → Int32) → Prop} (h : post 0 1 m) : wpX7_ploughs_L13 x1 post 1 thr m := by
  unfold wpX7_ploughs_L13
  exact m_yes (br_n (by decide) h)
theorem zpg_Go {A : Nat → Nat} (hI : zI A) (h4 : A 2 < 4) {u : Nat} : zGo A (zpg A u) := by
  have hA := hI.1
  have z1 := zpg_z hI h4 (u := u) (c := 1) (by omega) (by omega)
  rw [show 94 + 9 * A 2 + 1 = 95 + 9 * A 2 by omega] at z1
  have e1 : zpg A u 1 = A 1 := zpg_o (by omega) (by omega)
  refine ⟨by omega, by rw [zpg_2]; omega, fun h => ⟨?_, fun j hj hb => ?_⟩⟩
  · rw [e1, zpg_o (k := 9) (by omega) (by omega), ← h.1]
    exact zsum_c _ (fun i hi => zpg_o (by omega) (by omega))
  · rw [zpg_2] at hj
    by_cases e : j = A 2
    · rw [e, z1] at hb
      exact absurd hb (Nat.lt_irrefl 0)
    · have hj' : j < A 2 := by omega
      rw [zpg_o (by omega) (by omega)] at hb
      have hi := (zI_pl hI hj').2.2.1 hb
      rw [zpg_o (k := 94 + 9 * j) (by omega) (by omega), zpg_o (k := 96 + 9 * j) (by omega) (by omega), zpg_o (k := 10 + 7 * A (96 + 9 * j)) (by omega) (by omega), zpg_o (k := 11 + 7 * A (96 + 9 * j)) (by omega) (by omega)]
      exact h.2 j hj' hb
theorem o_plough {A : Nat → Nat} {t_time t_store t_rate t_force t_cleared t_ploughed t_failed t_complained : Int32} {s_lower s_higher s_kind s_size s_snow s_saltEnd s_complained s_clearings : Nat → Int32} {s_count : Int32} {q_place q_target q_minutesLeft q_waiting q_orders : Nat → Int32} {q_count : Int32} (hT : zTc A t_time t_store t_rate t_force t_cleared t_ploughed t_failed t_complained s_lower s_higher s_kind s_size s_snow s_saltEnd s_complained s_clearings s_count q_place q_target q_minutesLeft q_waiting q_orders q_count) (x1 thr : Int32) (w : zX) :
    zAg A [(-1, 1), (-4, 2)] 0 ((∃ a : Nat, a < 8 ∧ x1 = nI a) → 1 ≤ A 2) (fun B => 1 ≤ B 2) (fun u => u.1 = t_time ∧ u.2.1 = t_store ∧ u.2.2.1 = t_rate ∧ u.2.2.2.1 = t_force ∧ u.2.2.2.2.1 = t_cleared ∧ u.2.2.2.2.2.1 = t_ploughed ∧ u.2.2.2.2.2.2.1 = t_failed ∧ u.2.2.2.2.2.2.2.1 = t_complained ∧ u.2.2.2.2.2.2.2.2.1 = s_lower ∧ u.2.2.2.2.2.2.2.2.2.1 = s_higher ∧ u.2.2.2.2.2.2.2.2.2.2.1 = s_kind ∧ u.2.2.2.2.2.2.2.2.2.2.2.1 = s_size ∧ u.2.2.2.2.2.2.2.2.2.2.2.2.1 = s_snow ∧ u.2.2.2.2.2.2.2.2.2.2.2.2.2.1 = s_saltEnd ∧ u.2.2.2.2.2.2.2.2.2.2.2.2.2.2.1 = s_complained ∧ u.2.2.2.2.2.2.2.2.2.2.2.2.2.2.2.1 = s_clearings ∧ u.2.2.2.2.2.2.2.2.2.2.2.2.2.2.2.2.1 = s_count ∧ u.2.2.2.2.2.2.2.2.2.2.2.2.2.2.2.2.2.2.2.2.2.1 = q_orders) (t_time, t_store, t_rate, t_force, t_cleared, t_ploughed, t_failed, t_complained, s_lower, s_higher, s_kind, s_size, s_snow, s_saltEnd, s_complained, s_clearings, s_count, q_place, q_target, q_minutesLeft, q_waiting, q_orders, q_count) w (fun post => wpX5_putPlough x1 q_place q_target q_minutesLeft q_waiting q_count (fun r a b c d i => post r (t_time, t_store, t_rate, t_force, t_cleared, t_ploughed, t_failed, t_complained, s_lower, s_higher, s_kind, s_size, s_snow, s_saltEnd, s_complained, s_clearings, s_count, a, b, c, d, q_orders, i) w)) (fun m y post => wpX7_ploughs x1 thr m (fun r k m' => post r k m' y)) := by
  obtain ⟨hI, hTt, hS, hQ, hK, C, hC, hC4⟩ := hT
  have hA := hI.1
  by_cases j1 : ∃ a : Nat, a < 8 ∧ x1 = nI a
  case neg => exact Or.inl ⟨-1, 1, by simp, (fun e => absurd e j1), fun post hp => by unfold wpX5_putPlough; exact k_isjN j1 (br_t rfl hp), fun m y hM post hp => by unfold wpX7_ploughs; exact m_isjN j1 (br_m rfl (m_pl13 hp))⟩
  obtain ⟨a, ha, rfl⟩ := j1
  have m2 : ∀ {m : Nat → Int32}, zM A m → m (2 : Int32).toNatClampNeg = nI (A 2) := fun hM => hM 2 (by omega)
  obtain ⟨rfl, q1, q2, q3, q4, q5⟩ := hQ
  by_cases e4 : A 2 = 4
  · refine Or.inl ⟨-4, 2, by simp, (fun _ => by omega), fun post hp => ?_, fun m y hM post hp => ?_⟩
    · unfold wpX5_putPlough
      refine k_isjI ha (br_f (by decide) ?_)
      unfold wpX2_put
      exact br_f (nI_pos (by omega)) (br_f (nI_nlt (b := 4) (by omega) (by omega)) hp)
    · unfold wpX7_ploughs
      refine m_isjI ha (br_n (by decide) ?_)
      unfold wpX7_ploughs_L13
      refine m_no (br_m rfl ⟨by unfold vp_in; decide, br_m (by rw [m2 hM, e4]; rfl) ?_⟩)
      unfold wpX7_ploughs_L36
      exact m_yes (br_f (by decide) hp)
  have h4 : A 2 < 4 := by omega
  have e0 : zpg A a 0 = A 0 := zpg_o (by omega) (by omega)
  have e1 : zpg A a 1 = A 1 := zpg_o (by omega) (by omega)
  have z1 := zpg_z hI h4 (u := a) (c := 1) (by omega) (by omega)
  have z3 := zpg_z hI h4 (u := a) (c := 3) (by omega) (by omega)
  rw [show 94 + 9 * A 2 + 1 = 95 + 9 * A 2 by omega] at z1
  rw [show 94 + 9 * A 2 + 3 = 97 + 9 * A 2 by omega] at z3
  refine Or.inr ⟨zpg A a, A 2, by omega, ⟨⟨by omega, zpg_Go hI h4⟩, by show 1 ≤ zpg A a 2; rw [zpg_2]; omega⟩, by rw [e0]; omega, fun post hp => ?_, fun m y hM post hp => ?_⟩
  · unfold wpX5_putPlough
    refine k_isjI ha (br_f (by decide) ?_)
    unfold wpX2_put
    have hin : vp_in (nI (A 2)) 4 := vp_in_nI h4 (by omega)
    refine br_f (nI_pos (by omega)) (br_t (nI_lt (b := 4) h4 (by omega)) ⟨hin, hin, hin, hin, hp _ w ?_ ⟨rfl, rfl, rfl, rfl, rfl, rfl, rfl, rfl, rfl, rfl, rfl, rfl, rfl, rfl, rfl, rfl, rfl, rfl⟩⟩)
    rw [nI_clamp (by omega), nI_1]
    refine ⟨zpg_I hI h4 ha, zT_eq e0 (fun k _ _ => zpg_o (by omega) (by omega)) hTt, zS_eq hA.1 e1 (fun k _ _ => zpg_o (by omega) (by omega)) hS, ?_, hK, C, by rw [e1]; exact hC, by rw [e1, e0]; exact hC4⟩
    show zQ (zpg A a) (upd q_place (A 2) (nI a)) (upd q_target (A 2) (-1)) (upd q_minutesLeft (A 2) (nI 0)) (upd q_waiting (A 2) (nI 0)) q_orders (nI (A 2 + 1))
    unfold zQ
    rw [zpg_2]
    refine ⟨rfl, zL_ins q1 (fun i hi => zpg_o (by omega) (by omega)) zpg_a, fun j hj hb => ?_, zL_ins q3 (fun i hi => zpg_o (by omega) (by omega)) z1, zL_ins q4 (fun i hi => zpg_o (by omega) (by omega)) z3, fun j hj k hk => ?_⟩
    · by_cases e : j = A 2
      · rw [e, z1] at hb
        exact absurd hb (Nat.lt_irrefl 0)
      · rw [zpg_o (by omega) (by omega)] at hb ⊢
        rw [pk_un e]
        exact q2 j (by omega) hb
    · by_cases e : j = A 2
      · rw [e, z3] at hk
        exact absurd hk (Nat.not_lt_zero k)
      · have h5 := (zI_pl hI (j := j) (by omega)).2.2.2.1
        rw [zpg_o (by omega) (by omega)] at hk
        rw [zpg_o (by omega) (by omega)]
        exact q5 j (by omega) k hk
  · unfold wpX7_ploughs
    refine m_isjI ha (br_n (by decide) ?_)
    unfold wpX7_ploughs_L13
    refine m_no (br_m rfl ⟨by unfold vp_in; decide, br_n (fun q => e4 ((nI_eq (a := A 2) (b := 4) (by omega) (by omega)).mp ((m2 hM).symm.trans q))) ?_⟩)
    unfold wpX7_ploughs_L36
    refine m_no (br_t rfl ⟨by unfold vp_in; decide, ?_⟩)
    rw [m2 hM]
    refine m_setsP hM (A 2) 0 a rfl rfl (by omega) (fun m' hm' => ⟨by unfold vp_in; decide, by unfold vp_in; decide, by unfold vp_in; decide, ?_⟩)
    have e2 : m' (2 : Int32).toNatClampNeg = nI (A 2) := by
      rw [show (2 : Int32).toNatClampNeg = 2 from rfl, hm' 2 (by omega), zu_n (by omega)]
    rw [e2, pk_us, nI_1, show nI (A 2 + 1) - 1 = nI (A 2) from pk_sub (a := A 2 + 1) (b := 1) (by omega)]
    have h5 := zM_u hm' 2 (A 2 + 1)
    rw [show 94 + 9 * A 2 + 0 = 94 + 9 * A 2 by omega] at h5
    exact hp _ y h5
/-! orders -/
def zor (A : Nat → Nat) (j i : Nat) : Nat → Nat := zu (zu A (98 + 9 * j + A (97 + 9 * j)) i) (97 + 9 * j) (A (97 + 9 * j) + 1)
theorem zor_n {A : Nat → Nat} {j i : Nat} : zor A j i (97 + 9 * j) = A (97 + 9 * j) + 1 := zu_s
theorem zor_a {A : Nat → Nat} {j i : Nat} : zor A j i (98 + 9 * j + A (97 + 9 * j)) = i := by
  unfold zor
  rw [zu_n (by omega), zu_s]
theorem zor_o {A : Nat → Nat} {j i k : Nat} (h1 : k ≠ 97 + 9 * j) (h : k ≠ 98 + 9 * j + A (97 + 9 * j)) : zor A j i k = A k := by
  unfold zor
  rw [zu_n h1, zu_n h]
theorem zor_I {A : Nat → Nat} (hI : zI A) {j i : Nat} (hj : j < A 2) (hi : i < A 1) (h5 : A (97 + 9 * j) < 5) : zI (zor A j i) := by
  have g := zI_pl hI hj
  refine zI_pj hI (j := j) (fun k hk _ => zor_o (by omega) (by omega)) (fun _ => ?_) hj
  unfold zPl
  rw [zor_n, zor_o (k := 94 + 9 * j) (by omega) (by omega), zor_o (k := 95 + 9 * j) (by omega) (by omega), zor_o (k := 96 + 9 * j) (by omega) (by omega), zor_o (k := 1) (by omega) (by omega)]
  refine ⟨g.1, g.2.1, g.2.2.1, by omega, fun k hk => ?_⟩
  by_cases e : k = A (97 + 9 * j)
  · subst e
    rw [zor_a]
    exact hi
  · rw [zor_o (by omega) (by omega)]
    exact g.2.2.2.2 k (by omega)
theorem zor_Go {A : Nat → Nat} (hI : zI A) {j i : Nat} (hj : j < A 2) (h5 : A (97 + 9 * j) < 5) : zGo A (zor A j i) := zGo_eq hI (fun k hk => zor_o (by omega) (by omega))
theorem o_order {A : Nat → Nat} {t_time t_store t_rate t_force t_cleared t_ploughed t_failed t_complained : Int32} {s_lower s_higher s_kind s_size s_snow s_saltEnd s_complained s_clearings : Nat → Int32} {s_count : Int32} {q_place q_target q_minutesLeft q_waiting q_orders : Nat → Int32} {q_count : Int32} (hT : zTc A t_time t_store t_rate t_force t_cleared t_ploughed t_failed t_complained s_lower s_higher s_kind s_size s_snow s_saltEnd s_complained s_clearings s_count q_place q_target q_minutesLeft q_waiting q_orders q_count) (x1 x2 thr : Int32) (w : zX) :
    zAg A [(-1, 1), (-4, 2)] 0 True (fun _ => True) (fun u => u.1 = t_time ∧ u.2.1 = t_store ∧ u.2.2.1 = t_rate ∧ u.2.2.2.1 = t_force ∧ u.2.2.2.2.1 = t_cleared ∧ u.2.2.2.2.2.1 = t_ploughed ∧ u.2.2.2.2.2.2.1 = t_failed ∧ u.2.2.2.2.2.2.2.1 = t_complained ∧ u.2.2.2.2.2.2.2.2.1 = s_lower ∧ u.2.2.2.2.2.2.2.2.2.1 = s_higher ∧ u.2.2.2.2.2.2.2.2.2.2.1 = s_kind ∧ u.2.2.2.2.2.2.2.2.2.2.2.1 = s_size ∧ u.2.2.2.2.2.2.2.2.2.2.2.2.1 = s_snow ∧ u.2.2.2.2.2.2.2.2.2.2.2.2.2.1 = s_saltEnd ∧ u.2.2.2.2.2.2.2.2.2.2.2.2.2.2.1 = s_complained ∧ u.2.2.2.2.2.2.2.2.2.2.2.2.2.2.2.1 = s_clearings ∧ u.2.2.2.2.2.2.2.2.2.2.2.2.2.2.2.2.1 = s_count ∧ u.2.2.2.2.2.2.2.2.2.2.2.2.2.2.2.2.2.1 = q_place ∧ u.2.2.2.2.2.2.2.2.2.2.2.2.2.2.2.2.2.2.1 = q_target ∧ u.2.2.2.2.2.2.2.2.2.2.2.2.2.2.2.2.2.2.2.1 = q_minutesLeft ∧ u.2.2.2.2.2.2.2.2.2.2.2.2.2.2.2.2.2.2.2.2.2.2 = q_count) (t_time, t_store, t_rate, t_force, t_cleared, t_ploughed, t_failed, t_complained, s_lower, s_higher, s_kind, s_size, s_snow, s_saltEnd, s_complained, s_clearings, s_count, q_place, q_target, q_minutesLeft, q_waiting, q_orders, q_count) w (fun post => wpX5_appendOrder x1 x2 s_count q_waiting q_orders q_count (fun r a b => post r (t_time, t_store, t_rate, t_force, t_cleared, t_ploughed, t_failed, t_complained, s_lower, s_higher, s_kind, s_size, s_snow, s_saltEnd, s_complained, s_clearings, s_count, q_place, q_target, q_minutesLeft, a, b, q_count) w)) (fun m y post => wpX7_orders x1 x2 thr m (fun r k m' => post r k m' y)) := by
  obtain ⟨hI, hTt, hS, hQ, hK, C, hC, hC4⟩ := hT
  have hA := hI.1
  have hSc := hS.1
  subst hSc
  obtain ⟨rfl, q1, q2, q3, q4, q5⟩ := hQ
  have hfail : ∀ {m : Nat → Int32} (post : Int32 → Int32 → (Nat → Int32) → Prop), post 0 1 m → wpX7_orders_L22 x1 x2 post 1 thr m := fun {m} post hp => by
    unfold wpX7_orders_L22
    exact m_yes (br_n (by decide) hp)
  by_cases j2 : ∃ i : Nat, i < A 1 ∧ x2 = nI i
  case neg =>
    refine Or.inl ⟨-1, 1, by simp, trivial, fun post hp => by unfold wpX5_appendOrder; exact k_hasN hA.1 j2 (br_t rfl hp), fun m y hM post hp => ?_⟩
    unfold wpX7_orders
    exact m_isP hM hA.2.1 (fun _ _ _ => br_f (by decide) (m_isSN hM hA.1 j2 (br_m rfl (hfail _ hp)))) (fun _ => br_t rfl (hfail _ hp))
  obtain ⟨i, hi, rfl⟩ := j2
  by_cases j1 : ∃ j : Nat, j < A 2 ∧ x1 = nI j
  case neg =>
    refine Or.inl ⟨-1, 1, by simp, trivial, fun post hp => ?_, fun m y hM post hp => by unfold wpX7_orders; exact m_isPN hM hA.2.1 j1 (br_t rfl (hfail _ hp))⟩
    unfold wpX5_appendOrder
    refine k_hasI hA.1 hi (br_f (by decide) ?_)
    unfold wpX2_append
    exact k_pasN hA.2.1 j1 (br_m rfl hp)
  obtain ⟨j, hj, rfl⟩ := j1
  have g := zI_pl hI hj
  have g5 := g.2.2.2.1
  have kap : ∀ post : Int32 → (Nat → Int32) → (Nat → Int32) → Prop, ((nI (A (97 + 9 * j)) < 5 → (vp_in (nI j * 5 + nI (A (97 + 9 * j))) 20 ∧ vp_in (nI j) 4 ∧ vp_in (nI j) 4 ∧ vp_in (nI j) 4 ∧ post (upd q_waiting j (nI (A (97 + 9 * j)) + 1) j) (upd q_waiting j (nI (A (97 + 9 * j)) + 1)) (upd q_orders (nI j * 5 + nI (A (97 + 9 * j))).toNatClampNeg (nI i)))) ∧ (¬ nI (A (97 + 9 * j)) < 5 → post (-4) q_waiting q_orders)) → wpX5_appendOrder (nI j) (nI i) (nI (A 1)) q_waiting q_orders (nI (A 2)) post := by
    intro post hp
    unfold wpX5_appendOrder
    refine k_hasI hA.1 hi (br_f (by decide) ?_)
    unfold wpX2_append
    refine k_pasI hA.2.1 hj (br_n (by decide) ⟨vp_in_nI (by omega) (by omega), ?_⟩)
    rw [nI_clamp (by omega), zg q4 j hj]
    exact br_f (nI_pos (by omega)) hp
  have mor : ∀ {m : Nat → Int32} (hM : zM A m) (post : Int32 → Int32 → (Nat → Int32) → Prop), ((¬ nI (A (97 + 9 * j)) = 5 → wpX7_orders_L45 (nI j) (nI i) post 0 0 m) ∧ (nI (A (97 + 9 * j)) = 5 → wpX7_orders_L45 (nI j) (nI i) post 1 0 m)) → wpX7_orders (nI j) (nI i) thr m post := by
    intro m hM post hp
    unfold wpX7_orders
    refine m_isPI hM hA.2.1 hj (br_f (by decide) (m_isSI hM hA.1 hi (br_n (by decide) ?_)))
    unfold wpX7_orders_L22
    refine m_no (br_m rfl (m_ofP hM j 3 rfl (by omega) ?_))
    rw [show 94 + 9 * j + 3 = 97 + 9 * j by omega]
    exact hp
  by_cases e5 : A (97 + 9 * j) = 5
  · refine Or.inl ⟨-4, 2, by simp, trivial, fun post hp => kap _ (br_f (nI_nlt (b := 5) (by omega) (by omega)) hp), fun m y hM post hp => mor hM _ (br_m (by rw [e5]; rfl) ?_)⟩
    unfold wpX7_orders_L45
    exact m_yes (br_f (by decide) hp)
  have e0 : zor A j i 0 = A 0 := zor_o (by omega) (by omega)
  have e1 : zor A j i 1 = A 1 := zor_o (by omega) (by omega)
  have e2 : zor A j i 2 = A 2 := zor_o (by omega) (by omega)
  refine Or.inr ⟨zor A j i, A (97 + 9 * j) + 1, by omega, ⟨⟨by omega, zor_Go hI (by omega) (by omega)⟩, trivial⟩, by rw [e0]; omega, fun post hp => kap _ (br_t (nI_lt (b := 5) (by omega) (by omega)) ?_), fun m y hM post hp => mor hM _ (br_n (fun q => e5 ((nI_eq (b := 5) (by omega) (by omega)).mp q)) ?_)⟩
  · rw [k_ix5, nI_clamp (by omega), pk_us, nI_1]
    refine ⟨vp_in_nI (by omega) (by omega), vp_in_nI (by omega) (by omega), vp_in_nI (by omega) (by omega), vp_in_nI (by omega) (by omega), hp _ w ?_ ⟨rfl, rfl, rfl, rfl, rfl, rfl, rfl, rfl, rfl, rfl, rfl, rfl, rfl, rfl, rfl, rfl, rfl, rfl, rfl, rfl, rfl⟩⟩
    refine ⟨zor_I hI hj hi (by omega), zT_eq e0 (fun k _ _ => zor_o (by omega) (by omega)) hTt, zS_eq hA.1 e1 (fun k _ _ => zor_o (by omega) (by omega)) hS, ?_, hK, C, by rw [e1]; exact hC, by rw [e1, e0]; exact hC4⟩
    show zQ (zor A j i) q_place q_target q_minutesLeft (upd q_waiting j (nI (A (97 + 9 * j) + 1))) (upd q_orders (5 * j + A (97 + 9 * j)) (nI i)) (nI (A 2))
    unfold zQ
    rw [e2]
    have hp5 : ∀ j' : Nat, j' < A 2 → A (97 + 9 * j') ≤ 5 := fun j' h' => (zI_pl hI h').2.2.2.1
    refine ⟨rfl, zL_c q1 rfl (fun j' hj' => zor_o (by omega) (by omega)), fun j' hj' hb => ?_, zL_c q3 rfl (fun j' hj' => zor_o (by omega) (by omega)), zL_p q4 rfl (fun j' hj' hne => zor_o (by omega) (by omega)) (fun _ => zor_n), fun j' hj' k hk => ?_⟩
    · rw [zor_o (by omega) (by omega)] at hb ⊢
      exact q2 j' hj' hb
    · by_cases e : j' = j
      · subst e
        rw [zor_n] at hk
        by_cases ek : k = A (97 + 9 * j')
        · subst ek
          rw [pk_us, zor_a]
        · rw [pk_un (by omega), zor_o (by omega) (by omega)]
          exact q5 j' hj' k (by omega)
      · have h5' := hp5 j' hj'
        rw [zor_o (by omega) (by omega)] at hk
        rw [pk_un (by omega), zor_o (by omega) (by omega)]
        exact q5 j' hj' k hk
  · unfold wpX7_orders_L45
    refine m_no (br_t rfl (m_ofP hM j 3 rfl (by omega) ?_))
    rw [show 94 + 9 * j + 3 = 97 + 9 * j by omega, nI_1]
    refine m_setsP hM j (4 + A (97 + 9 * j)) i (nI_add 4 _) rfl (by omega) (fun m1 h1 => m_setsP h1 j 3 (A (97 + 9 * j) + 1) rfl rfl (by omega) (fun m2 h2 => ?_))
    rw [show 94 + 9 * j + (4 + A (97 + 9 * j)) = 98 + 9 * j + A (97 + 9 * j) by omega, show 94 + 9 * j + 3 = 97 + 9 * j by omega] at h2
    exact hp _ y h2
def zca (A : Nat → Nat) (j : Nat) : Nat → Nat := zu (zu A (98 + 9 * j + (A (97 + 9 * j) - 1)) 0) (97 + 9 * j) (A (97 + 9 * j) - 1)
theorem zca_n {A : Nat → Nat} {j : Nat} : zca A j (97 + 9 * j) = A (97 + 9 * j) - 1 := zu_s
theorem zca_o {A : Nat → Nat} {j k : Nat} (h1 : k ≠ 97 + 9 * j) (h : k ≠ 98 + 9 * j + (A (97 + 9 * j) - 1)) : zca A j k = A k := by
  unfold zca
  rw [zu_n h1, zu_n h]
theorem zca_I {A : Nat → Nat} (hI : zI A) {j : Nat} (hj : j < A 2) : zI (zca A j) := by
  have g := zI_pl hI hj
  have g5 := g.2.2.2.1
  refine zI_pj hI (j := j) (fun k hk _ => zca_o (by omega) (by omega)) (fun _ => ?_) hj
  unfold zPl
  rw [zca_n, zca_o (k := 94 + 9 * j) (by omega) (by omega), zca_o (k := 95 + 9 * j) (by omega) (by omega), zca_o (k := 96 + 9 * j) (by omega) (by omega), zca_o (k := 1) (by omega) (by omega)]
  refine ⟨g.1, g.2.1, g.2.2.1, by omega, fun k hk => ?_⟩
  rw [zca_o (by omega) (by omega)]
  exact g.2.2.2.2 k (by omega)
theorem zca_Go {A : Nat → Nat} (hI : zI A) {j : Nat} (hj : j < A 2) : zGo A (zca A j) := by
  have h5 := (zI_pl hI hj).2.2.2.1
  exact zGo_eq hI (fun k hk => zca_o (by omega) (by omega))
theorem o_cancel {A : Nat → Nat} {t_time t_store t_rate t_force t_cleared t_ploughed t_failed t_complained : Int32} {s_lower s_higher s_kind s_size s_snow s_saltEnd s_complained s_clearings : Nat → Int32} {s_count : Int32} {q_place q_target q_minutesLeft q_waiting q_orders : Nat → Int32} {q_count : Int32} (hT : zTc A t_time t_store t_rate t_force t_cleared t_ploughed t_failed t_complained s_lower s_higher s_kind s_size s_snow s_saltEnd s_complained s_clearings s_count q_place q_target q_minutesLeft q_waiting q_orders q_count) (x1 thr : Int32) (w : zX) :
    zAg A [(-1, 1), (-5, 2)] 0 True (fun _ => True) (fun u => u.1 = t_time ∧ u.2.1 = t_store ∧ u.2.2.1 = t_rate ∧ u.2.2.2.1 = t_force ∧ u.2.2.2.2.1 = t_cleared ∧ u.2.2.2.2.2.1 = t_ploughed ∧ u.2.2.2.2.2.2.1 = t_failed ∧ u.2.2.2.2.2.2.2.1 = t_complained ∧ u.2.2.2.2.2.2.2.2.1 = s_lower ∧ u.2.2.2.2.2.2.2.2.2.1 = s_higher ∧ u.2.2.2.2.2.2.2.2.2.2.1 = s_kind ∧ u.2.2.2.2.2.2.2.2.2.2.2.1 = s_size ∧ u.2.2.2.2.2.2.2.2.2.2.2.2.1 = s_snow ∧ u.2.2.2.2.2.2.2.2.2.2.2.2.2.1 = s_saltEnd ∧ u.2.2.2.2.2.2.2.2.2.2.2.2.2.2.1 = s_complained ∧ u.2.2.2.2.2.2.2.2.2.2.2.2.2.2.2.1 = s_clearings ∧ u.2.2.2.2.2.2.2.2.2.2.2.2.2.2.2.2.1 = s_count ∧ u.2.2.2.2.2.2.2.2.2.2.2.2.2.2.2.2.2.1 = q_place ∧ u.2.2.2.2.2.2.2.2.2.2.2.2.2.2.2.2.2.2.1 = q_target ∧ u.2.2.2.2.2.2.2.2.2.2.2.2.2.2.2.2.2.2.2.1 = q_minutesLeft ∧ u.2.2.2.2.2.2.2.2.2.2.2.2.2.2.2.2.2.2.2.2.2.1 = q_orders ∧ u.2.2.2.2.2.2.2.2.2.2.2.2.2.2.2.2.2.2.2.2.2.2 = q_count) (t_time, t_store, t_rate, t_force, t_cleared, t_ploughed, t_failed, t_complained, s_lower, s_higher, s_kind, s_size, s_snow, s_saltEnd, s_complained, s_clearings, s_count, q_place, q_target, q_minutesLeft, q_waiting, q_orders, q_count) w (fun post => wpX5_removeOrder x1 q_waiting q_orders q_count (fun r a => post r (t_time, t_store, t_rate, t_force, t_cleared, t_ploughed, t_failed, t_complained, s_lower, s_higher, s_kind, s_size, s_snow, s_saltEnd, s_complained, s_clearings, s_count, q_place, q_target, q_minutesLeft, a, q_orders, q_count) w)) (fun m y post => wpX7_cancels x1 thr m (fun r k m' => post r k m' y)) := by
  obtain ⟨hI, hTt, hS, hQ, hK, C, hC, hC4⟩ := hT
  have hA := hI.1
  obtain ⟨rfl, q1, q2, q3, q4, q5⟩ := hQ
  by_cases j1 : ∃ j : Nat, j < A 2 ∧ x1 = nI j
  case neg =>
    refine Or.inl ⟨-1, 1, by simp, trivial, fun post hp => ?_, fun m y hM post hp => ?_⟩
    · unfold wpX5_removeOrder wpX2_removeLast
      exact k_pasN hA.2.1 j1 (br_m rfl hp)
    · unfold wpX7_cancels
      refine m_isPN hM hA.2.1 j1 (br_m rfl ?_)
      unfold wpX7_cancels_L14
      exact m_yes (br_n (by decide) hp)
  obtain ⟨j, hj, rfl⟩ := j1
  have g := zI_pl hI hj
  have g5 := g.2.2.2.1
  have mca : ∀ {m : Nat → Int32} (hM : zM A m) (post : Int32 → Int32 → (Nat → Int32) → Prop), ((¬ nI (A (97 + 9 * j)) = 0 → wpX7_cancels_L36 (nI j) post 0 0 m) ∧ (nI (A (97 + 9 * j)) = 0 → wpX7_cancels_L36 (nI j) post 1 0 m)) → wpX7_cancels (nI j) thr m post := by
    intro m hM post hp
    unfold wpX7_cancels
    refine m_isPI hM hA.2.1 hj (br_n (by decide) ?_)
    unfold wpX7_cancels_L14
    refine m_no (br_m rfl (m_ofP hM j 3 rfl (by omega) ?_))
    rw [show 94 + 9 * j + 3 = 97 + 9 * j by omega]
    exact hp
  by_cases e5 : A (97 + 9 * j) = 0
  · refine Or.inl ⟨-5, 2, by simp, trivial, fun post hp => ?_, fun m y hM post hp => mca hM _ (br_m (by rw [e5]; rfl) ?_)⟩
    · unfold wpX5_removeOrder wpX2_removeLast
      refine k_pasI hA.2.1 hj (br_n (by decide) ⟨vp_in_nI (by omega) (by omega), ?_⟩)
      rw [nI_clamp (by omega), q4 j hj]
      refine k_waitAt hI q4 q5 hj (fun k hk _ => ?_) (fun _ => br_f (by decide) hp)
      exact absurd hk (by omega)
    · unfold wpX7_cancels_L36
      exact m_yes (br_f (by decide) hp)
  have e0 : zca A j 0 = A 0 := zca_o (by omega) (by omega)
  have e1 : zca A j 1 = A 1 := zca_o (by omega) (by omega)
  have e2 : zca A j 2 = A 2 := zca_o (by omega) (by omega)
  have hlt := g.2.2.2.2 (A (97 + 9 * j) - 1) (by omega)
  refine Or.inr ⟨zca A j, A (98 + 9 * j + (A (97 + 9 * j) - 1)), by omega, ⟨⟨by omega, zca_Go hI (by omega)⟩, trivial⟩, by rw [e0]; omega, fun post hp => ?_, fun m y hM post hp => mca hM _ (br_n (nI_ne0 (by omega) (by omega)) ?_)⟩
  · unfold wpX5_removeOrder wpX2_removeLast
    refine k_pasI hA.2.1 hj (br_n (by decide) ⟨vp_in_nI (by omega) (by omega), ?_⟩)
    rw [nI_clamp (by omega), q4 j hj]
    dsimp only
    rw [show nI (A (97 + 9 * j)) - 1 = nI (A (97 + 9 * j) - 1) from pk_sub (b := 1) (by omega)]
    refine k_waitAt hI q4 q5 hj (fun k hk e => ?_) (fun q => absurd ⟨A (97 + 9 * j) - 1, by omega, rfl⟩ q)
    have ek : k = A (97 + 9 * j) - 1 := ((nI_eq (by omega) (by omega)).mp e).symm
    subst ek
    refine br_t (nI_pos' (by omega)) ⟨vp_in_nI (by omega) (by omega), vp_in_nI (by omega) (by omega), hp _ w ?_ ⟨rfl, rfl, rfl, rfl, rfl, rfl, rfl, rfl, rfl, rfl, rfl, rfl, rfl, rfl, rfl, rfl, rfl, rfl, rfl, rfl, rfl, rfl⟩⟩
    refine ⟨zca_I hI hj, zT_eq e0 (fun k _ _ => zca_o (by omega) (by omega)) hTt, zS_eq hA.1 e1 (fun k _ _ => zca_o (by omega) (by omega)) hS, ?_, hK, C, by rw [e1]; exact hC, by rw [e1, e0]; exact hC4⟩
    show zQ (zca A j) q_place q_target q_minutesLeft (upd q_waiting j (nI (A (97 + 9 * j) - 1))) q_orders (nI (A 2))
    unfold zQ
    rw [e2]
    have hp5 : ∀ j' : Nat, j' < A 2 → A (97 + 9 * j') ≤ 5 := fun j' h' => (zI_pl hI h').2.2.2.1
    refine ⟨rfl, zL_c q1 rfl (fun j' hj' => zca_o (by omega) (by omega)), fun j' hj' hb => ?_, zL_c q3 rfl (fun j' hj' => zca_o (by omega) (by omega)), zL_p q4 rfl (fun j' hj' hne => zca_o (by omega) (by omega)) (fun _ => zca_n), fun j' hj' k hk => ?_⟩
    · rw [zca_o (by omega) (by omega)] at hb ⊢
      exact q2 j' hj' hb
    · by_cases e : j' = j
      · subst e
        rw [zca_n] at hk
        rw [zca_o (by omega) (by omega)]
        exact q5 j' hj' k (by omega)
      · have h5' := hp5 j' hj'
        rw [zca_o (by omega) (by omega)] at hk
        rw [zca_o (by omega) (by omega)]
        exact q5 j' hj' k hk
  · unfold wpX7_cancels_L36
    refine m_no (br_t rfl (m_ofP hM j 3 rfl (by omega) ?_))
    rw [show 94 + 9 * j + 3 = 97 + 9 * j by omega, show nI (A (97 + 9 * j)) - 1 = nI (A (97 + 9 * j) - 1) from pk_sub (b := 1) (by omega)]
    refine m_ofP hM j (4 + (A (97 + 9 * j) - 1)) (nI_add 4 _) (by omega) (m_setsP hM j (4 + (A (97 + 9 * j) - 1)) 0 (nI_add 4 _) rfl (by omega) (fun m1 h1 => m_setsP h1 j 3 (A (97 + 9 * j) - 1) rfl rfl (by omega) (fun m2 h2 => ?_)))
    rw [show 94 + 9 * j + (4 + (A (97 + 9 * j) - 1)) = 98 + 9 * j + (A (97 + 9 * j) - 1) by omega] at h2 ⊢
    rw [show 94 + 9 * j + 3 = 97 + 9 * j by omega] at h2
    exact hp _ y h2
/-! salt, weather, minutes -/
/-- a town with other sums and other salt -/
theorem zI_lo {A B : Nat → Nat} (h : zI A) (h1 : B 1 = A 1) (h2 : B 2 = A 2) (h3 : B 3 ≤ 500) (h4 : B 4 ≤ 9) (h5 : B 5 ≤ 9) (h0 : B 0 = A 0) (he : ∀ k : Nat, 10 ≤ k → B k = A k) : zI B := by
  refine zI_mk h (fun k q1 q2 => ?_) h3 h4 h5 (fun i hi => ?_) (fun i k _ _ _ => he _ (by omega)) (fun j hj => zPl_eq (zI_pl h hj) h1 (fun c _ => he _ (by omega))) (fun j k _ _ _ => he _ (by omega))
  · rcases (show k = 1 ∨ k = 2 by omega) with e | e <;> rw [e]
    · exact h1
    · exact h2
  · have g := h.2.1 i hi
    rw [he (14 + 7 * i) (by omega), he (15 + 7 * i) (by omega), h0]
    exact ⟨he _ (by omega), he _ (by omega), he _ (by omega), he _ (by omega), g.2.2.2.2.2.2.1, g.2.2.2.2.2.2.2⟩
def zsl (A : Nat → Nat) (i : Nat) : Nat → Nat := zu (zu A 3 (A 3 - A (13 + 7 * i))) (15 + 7 * i) (A 0 + 240)
theorem zsl_o {A : Nat → Nat} {i k : Nat} (h3 : k ≠ 3) (h : k ≠ 15 + 7 * i) : zsl A i k = A k := by
  unfold zsl
  rw [zu_n h, zu_n h3]
theorem zsl_3 {A : Nat → Nat} {i : Nat} : zsl A i 3 = A 3 - A (13 + 7 * i) := by
  unfold zsl
  rw [zu_n (by omega), zu_s]
theorem zsl_e {A : Nat → Nat} {i : Nat} : zsl A i (15 + 7 * i) = A 0 + 240 := zu_s
theorem zsl_I {A : Nat → Nat} (h : zI A) {i : Nat} (hi : i < A 1) : zI (zsl A i) := by
  have hA := h.1
  refine zI_mk h (fun k q1 q2 => zsl_o (by omega) (by omega)) (by rw [zsl_3]; omega) (by rw [zsl_o (by omega) (by omega)]; exact hA.2.2.2.1) (by rw [zsl_o (by omega) (by omega)]; exact hA.2.2.2.2) (fun i' hi' => ?_) (fun i' k q1 q2 q3 => zsl_o (by omega) (by omega)) (fun j hj => zPl_eq (zI_pl h hj) (zsl_o (by omega) (by omega)) (fun c _ => zsl_o (by omega) (by omega))) (fun j k q1 q2 q3 => zsl_o (by omega) (by omega))
  have g := h.2.1 i' hi'
  rw [zsl_o (k := 10 + 7 * i') (by omega) (by omega), zsl_o (k := 11 + 7 * i') (by omega) (by omega), zsl_o (k := 12 + 7 * i') (by omega) (by omega), zsl_o (k := 13 + 7 * i') (by omega) (by omega), zsl_o (k := 14 + 7 * i') (by omega) (by omega), zsl_o (k := 0) (by omega) (by omega)]
  refine ⟨rfl, rfl, rfl, rfl, g.2.2.2.2.2.2.1, ?_⟩
  by_cases e : i' = i
  · rw [e, zsl_e]
    exact Nat.le_refl _
  · rw [zsl_o (by omega) (by omega)]
    exact g.2.2.2.2.2.2.2
theorem zsl_Go {A : Nat → Nat} (hI : zI A) {i : Nat} (hi : i < A 1) : zGo A (zsl A i) := by
  have hA := hI.1
  exact zGo_eq hI (fun k hk => zsl_o (by omega) (by omega))
theorem o_salt {A : Nat → Nat} {t_time t_store t_rate t_force t_cleared t_ploughed t_failed t_complained : Int32} {s_lower s_higher s_kind s_size s_snow s_saltEnd s_complained s_clearings : Nat → Int32} {s_count : Int32} {q_place q_target q_minutesLeft q_waiting q_orders : Nat → Int32} {q_count : Int32} (hT : zTc A t_time t_store t_rate t_force t_cleared t_ploughed t_failed t_complained s_lower s_higher s_kind s_size s_snow s_saltEnd s_complained s_clearings s_count q_place q_target q_minutesLeft q_waiting q_orders q_count) (h29 : A 0 < 2 ^ 29) (x1 thr : Int32) (w : zX) :
    zAg A [(-1, 1), (-3, 2), (-4, 3)] 0 True (fun _ => True) (fun u => u.1 = t_time ∧ u.2.2.1 = t_rate ∧ u.2.2.2.1 = t_force ∧ u.2.2.2.2.1 = t_cleared ∧ u.2.2.2.2.2.1 = t_ploughed ∧ u.2.2.2.2.2.2.1 = t_failed ∧ u.2.2.2.2.2.2.2.1 = t_complained ∧ u.2.2.2.2.2.2.2.2.1 = s_lower ∧ u.2.2.2.2.2.2.2.2.2.1 = s_higher ∧ u.2.2.2.2.2.2.2.2.2.2.1 = s_kind ∧ u.2.2.2.2.2.2.2.2.2.2.2.1 = s_size ∧ u.2.2.2.2.2.2.2.2.2.2.2.2.1 = s_snow ∧ u.2.2.2.2.2.2.2.2.2.2.2.2.2.2.1 = s_complained ∧ u.2.2.2.2.2.2.2.2.2.2.2.2.2.2.2.1 = s_clearings ∧ u.2.2.2.2.2.2.2.2.2.2.2.2.2.2.2.2.1 = s_count ∧ u.2.2.2.2.2.2.2.2.2.2.2.2.2.2.2.2.2.1 = q_place ∧ u.2.2.2.2.2.2.2.2.2.2.2.2.2.2.2.2.2.2.1 = q_target ∧ u.2.2.2.2.2.2.2.2.2.2.2.2.2.2.2.2.2.2.2.1 = q_minutesLeft ∧ u.2.2.2.2.2.2.2.2.2.2.2.2.2.2.2.2.2.2.2.2.1 = q_waiting ∧ u.2.2.2.2.2.2.2.2.2.2.2.2.2.2.2.2.2.2.2.2.2.1 = q_orders ∧ u.2.2.2.2.2.2.2.2.2.2.2.2.2.2.2.2.2.2.2.2.2.2 = q_count) (t_time, t_store, t_rate, t_force, t_cleared, t_ploughed, t_failed, t_complained, s_lower, s_higher, s_kind, s_size, s_snow, s_saltEnd, s_complained, s_clearings, s_count, q_place, q_target, q_minutesLeft, q_waiting, q_orders, q_count) w (fun post => wpX5_spreadSalt x1 t_time t_store s_size s_saltEnd s_count (fun r a b => post r (t_time, a, t_rate, t_force, t_cleared, t_ploughed, t_failed, t_complained, s_lower, s_higher, s_kind, s_size, s_snow, b, s_complained, s_clearings, s_count, q_place, q_target, q_minutesLeft, q_waiting, q_orders, q_count) w)) (fun m y post => wpX7_salts x1 thr m (fun r k m' => post r k m' y)) := by
  obtain ⟨hI, hTt, hS, hQ, hK, C, hC, hC4⟩ := hT
  have hA := hI.1
  obtain ⟨rfl, hl, hh, hk, hz, hsn, hse, hco⟩ := hS
  obtain ⟨rfl, rfl, t4, t5, t6, t7, t8, t9⟩ := hTt
  by_cases j1 : ∃ i : Nat, i < A 1 ∧ x1 = nI i
  case neg =>
    refine Or.inl ⟨-1, 1, by simp, trivial, fun post hp => ?_, fun m y hM post hp => ?_⟩
    · unfold wpX5_spreadSalt
      exact k_hasN hA.1 j1 (br_m rfl hp)
    · unfold wpX7_salts
      refine m_isSN hM hA.1 j1 (br_m rfl ?_)
      unfold wpX7_salts_L14
      exact m_yes (br_n (by decide) hp)
  obtain ⟨i, hi, rfl⟩ := j1
  have g := hI.2.1 i hi
  have m3 : ∀ {m : Nat → Int32}, zM A m → m (3 : Int32).toNatClampNeg = nI (A 3) := fun hM => hM 3 (by omega)
  have m0 : ∀ {m : Nat → Int32}, zM A m → m (0 : Int32).toNatClampNeg = nI (A 0) := fun hM => hM 0 (by omega)
  have ksa : ∀ post : Int32 → Int32 → (Nat → Int32) → Prop, ((nI (A (15 + 7 * i)) - nI (A 0) ≤ 0 → (vp_in (nI i) 12 ∧ ((nI (A (13 + 7 * i)) ≤ nI (A 3) → (vp_in (nI i) 12 ∧ vp_in (nI i) 12 ∧ post (nI (A 3) - nI (A (13 + 7 * i))) (nI (A 3) - nI (A (13 + 7 * i))) (upd s_saltEnd i (nI (A 0) + 240)))) ∧ (¬ nI (A (13 + 7 * i)) ≤ nI (A 3) → post (-4) (nI (A 3)) s_saltEnd)))) ∧ (¬ nI (A (15 + 7 * i)) - nI (A 0) ≤ 0 → post (-3) (nI (A 3)) s_saltEnd)) → wpX5_spreadSalt (nI i) (nI (A 0)) (nI (A 3)) s_size s_saltEnd (nI (A 1)) post := by
    intro post hp
    unfold wpX5_spreadSalt
    refine k_hasI hA.1 hi (br_n (by decide) (k_salt hI hse hi ?_))
    rw [nI_clamp (by omega), hz i hi]
    exact hp
  have msa : ∀ {m : Nat → Int32} (hM : zM A m) (post : Int32 → Int32 → (Nat → Int32) → Prop), (A 0 < A (15 + 7 * i) → post 0 2 m) → (¬ A 0 < A (15 + 7 * i) → ((nI (A (13 + 7 * i)) ≤ nI (A 3) → wpX7_salts_L55 (nI i) post 0 0 m) ∧ (¬ nI (A (13 + 7 * i)) ≤ nI (A 3) → wpX7_salts_L55 (nI i) post 1 0 m))) → wpX7_salts (nI i) thr m post := by
    intro m hM post h1 h2
    unfold wpX7_salts
    refine m_isSI hM hA.1 hi (br_n (by decide) ?_)
    unfold wpX7_salts_L14
    refine m_no (br_m rfl (m_salted hM (by omega) h29 g.2.2.2.2.2.2.2 (fun q => m_yes (br_n (by decide) (h1 q))) (fun q => m_no (br_m rfl ⟨by unfold vp_in; decide, m_of hM i 3 rfl (by omega) ?_⟩))))
    rw [m3 hM, show 10 + 7 * i + 3 = 13 + 7 * i by omega]
    exact h2 q
  by_cases es : A 0 < A (15 + 7 * i)
  · exact Or.inl ⟨-3, 2, by simp, trivial, fun post hp => ksa _ (br_f (fun q => by have := (z_sub_le (by omega) (by omega)).mp q; omega) hp), fun m y hM post hp => msa hM _ (fun _ => hp) (fun q => absurd es q)⟩
  have es' : nI (A (15 + 7 * i)) - nI (A 0) ≤ 0 := (z_sub_le (by omega) (by omega)).mpr (by omega)
  by_cases el : A (13 + 7 * i) ≤ A 3
  case neg =>
    refine Or.inl ⟨-4, 3, by simp, trivial, fun post hp => ksa _ (br_t es' ⟨vp_in_nI (by omega) (by omega), br_f (nI_ge (by omega) (by omega)) hp⟩), fun m y hM post hp => msa hM _ (fun q => absurd q es) (fun _ => br_f (nI_ge (by omega) (by omega)) ?_)⟩
    unfold wpX7_salts_L55
    exact m_yes (br_f (by decide) hp)
  have e0 : zsl A i 0 = A 0 := zsl_o (by omega) (by omega)
  have e1 : zsl A i 1 = A 1 := zsl_o (by omega) (by omega)
  have e2 : zsl A i 2 = A 2 := zsl_o (by omega) (by omega)
  refine Or.inr ⟨zsl A i, A 3 - A (13 + 7 * i), by omega, ⟨⟨by omega, zsl_Go hI (by omega)⟩, trivial⟩, by rw [e0]; omega, fun post hp => ksa _ (br_t es' ⟨vp_in_nI (by omega) (by omega), br_t (nI_le el (by omega)) ⟨vp_in_nI (by omega) (by omega), vp_in_nI (by omega) (by omega), ?_⟩⟩), fun m y hM post hp => msa hM _ (fun q => absurd q es) (fun _ => br_t (nI_le el (by omega)) ?_)⟩
  · rw [pk_sub el, show nI (A 0) + 240 = nI (A 0 + 240) from nI_add _ 240]
    refine hp _ w ⟨zsl_I hI hi, ?_, ?_, ?_, hK, C, by rw [e1]; exact hC, by rw [e1, e0]; exact hC4⟩ ⟨rfl, rfl, rfl, rfl, rfl, rfl, rfl, rfl, rfl, rfl, rfl, rfl, rfl, rfl, rfl, rfl, rfl, rfl, rfl, rfl, rfl⟩
    · unfold zT
      rw [zsl_3, e0, zsl_o (by omega) (by omega), zsl_o (by omega) (by omega), zsl_o (by omega) (by omega), zsl_o (by omega) (by omega), zsl_o (by omega) (by omega), zsl_o (by omega) (by omega)]
      exact ⟨rfl, rfl, t4, t5, t6, t7, t8, t9⟩
    · unfold zS
      rw [e1]
      exact ⟨rfl, zL_c hl rfl (fun i' hi' => zsl_o (by omega) (by omega)), zL_c hh rfl (fun i' hi' => zsl_o (by omega) (by omega)), zL_c hk rfl (fun i' hi' => zsl_o (by omega) (by omega)), zL_c hz rfl (fun i' hi' => zsl_o (by omega) (by omega)), zL_c hsn rfl (fun i' hi' => zsl_o (by omega) (by omega)), zL_p hse rfl (fun i' hi' hne => zsl_o (by omega) (by omega)) (fun _ => zsl_e), zL_c hco rfl (fun i' hi' => zsl_o (by omega) (by omega))⟩
    · have q0 := hQ.1
      dsimp only
      rw [q0] at hQ ⊢
      have q9 := zQ_eq hI e2 (fun j hj => zsl_o (by omega) (by omega)) hQ
      rw [e2] at q9
      exact q9
  · unfold wpX7_salts_L55
    refine m_no (br_t rfl ⟨by unfold vp_in; decide, m_of hM i 3 rfl (by omega) ⟨by unfold vp_in; decide, by unfold vp_in; decide, ?_⟩⟩)
    rw [m3 hM, show 10 + 7 * i + 3 = 13 + 7 * i by omega, pk_sub el]
    have h1 := zM_u hM 3 (A 3 - A (13 + 7 * i))
    rw [show (3 : Int32).toNatClampNeg = 3 from rfl, show (0 : Int32).toNatClampNeg = 0 from rfl, h1 0 (by omega), zu_n (by omega), show nI (A 0) + 240 = nI (A 0 + 240) from nI_add _ 240]
    refine m_sets h1 i 5 (A 0 + 240) rfl rfl (by omega) (fun m2 h2 => ⟨by unfold vp_in; decide, ?_⟩)
    rw [h2 3 (by omega), zu_n (by omega), zu_s]
    rw [show 10 + 7 * i + 5 = 15 + 7 * i by omega] at h2
    exact hp _ y h2
/-- one sum of a town is another -/
theorem zTc_lo {A : Nat → Nat} {t_time t_store t_rate t_force t_cleared t_ploughed t_failed t_complained : Int32} {s_lower s_higher s_kind s_size s_snow s_saltEnd s_complained s_clearings : Nat → Int32} {s_count : Int32} {q_place q_target q_minutesLeft q_waiting q_orders : Nat → Int32} {q_count : Int32} (hT : zTc A t_time t_store t_rate t_force t_cleared t_ploughed t_failed t_complained s_lower s_higher s_kind s_size s_snow s_saltEnd s_complained s_clearings s_count q_place q_target q_minutesLeft q_waiting q_orders q_count) {k v : Nat} (hk : k = 3 ∧ v ≤ 500 ∨ (k = 4 ∨ k = 5) ∧ v ≤ 9) : zTc (zu A k v) t_time (if k = 3 then nI v else t_store) (if k = 4 then nI v else t_rate) (if k = 5 then nI v else t_force) t_cleared t_ploughed t_failed t_complained s_lower s_higher s_kind s_size s_snow s_saltEnd s_complained s_clearings s_count q_place q_target q_minutesLeft q_waiting q_orders q_count := by
  obtain ⟨hI, hTt, hS, hQ, hK, C, hC, hC4⟩ := hT
  have hA := hI.1
  have e0 : zu A k v 0 = A 0 := zu_n (by omega)
  have e1 : zu A k v 1 = A 1 := zu_n (by omega)
  have e2 : zu A k v 2 = A 2 := zu_n (by omega)
  obtain ⟨t0, t3, t4, t5, t6, t7, t8, t9⟩ := hTt
  refine ⟨zI_lo hI e1 e2 ?_ ?_ ?_ e0 (fun j hj => zu_n (by omega)), ?_, zS_eq hA.1 e1 (fun j _ _ => zu_n (by omega)) hS, ?_, hK, C, by rw [e1]; exact hC, by rw [e1, e0]; exact hC4⟩
  · unfold zu
    split <;> omega
  · unfold zu
    split <;> omega
  · unfold zu
    split <;> omega
  · unfold zT zu
    rcases hk with ⟨rfl, -⟩ | ⟨rfl | rfl, -⟩
    · exact ⟨t0, rfl, t4, t5, t6, t7, t8, t9⟩
    · exact ⟨t0, t3, rfl, t5, t6, t7, t8, t9⟩
    · exact ⟨t0, t3, t4, rfl, t6, t7, t8, t9⟩
  · have q0 := hQ.1
    rw [q0] at hQ ⊢
    have q9 := zQ_eq hI e2 (fun j hj => zu_n (by omega)) hQ
    rw [e2] at q9
    exact q9
theorem o_load {A : Nat → Nat} {t_time t_store t_rate t_force t_cleared t_ploughed t_failed t_complained : Int32} {s_lower s_higher s_kind s_size s_snow s_saltEnd s_complained s_clearings : Nat → Int32} {s_count : Int32} {q_place q_target q_minutesLeft q_waiting q_orders : Nat → Int32} {q_count : Int32} (hT : zTc A t_time t_store t_rate t_force t_cleared t_ploughed t_failed t_complained s_lower s_higher s_kind s_size s_snow s_saltEnd s_complained s_clearings s_count q_place q_target q_minutesLeft q_waiting q_orders q_count) (x1 thr : Int32) (w : zX) :
    zAg A [(-2, 1), (-3, 2)] 0 True (fun _ => True) (fun u => u.1 = t_time ∧ u.2.2.1 = t_rate ∧ u.2.2.2.1 = t_force ∧ u.2.2.2.2.1 = t_cleared ∧ u.2.2.2.2.2.1 = t_ploughed ∧ u.2.2.2.2.2.2.1 = t_failed ∧ u.2.2.2.2.2.2.2.1 = t_complained ∧ u.2.2.2.2.2.2.2.2.1 = s_lower ∧ u.2.2.2.2.2.2.2.2.2.1 = s_higher ∧ u.2.2.2.2.2.2.2.2.2.2.1 = s_kind ∧ u.2.2.2.2.2.2.2.2.2.2.2.1 = s_size ∧ u.2.2.2.2.2.2.2.2.2.2.2.2.1 = s_snow ∧ u.2.2.2.2.2.2.2.2.2.2.2.2.2.1 = s_saltEnd ∧ u.2.2.2.2.2.2.2.2.2.2.2.2.2.2.1 = s_complained ∧ u.2.2.2.2.2.2.2.2.2.2.2.2.2.2.2.1 = s_clearings ∧ u.2.2.2.2.2.2.2.2.2.2.2.2.2.2.2.2.1 = s_count ∧ u.2.2.2.2.2.2.2.2.2.2.2.2.2.2.2.2.2.1 = q_place ∧ u.2.2.2.2.2.2.2.2.2.2.2.2.2.2.2.2.2.2.1 = q_target ∧ u.2.2.2.2.2.2.2.2.2.2.2.2.2.2.2.2.2.2.2.1 = q_minutesLeft ∧ u.2.2.2.2.2.2.2.2.2.2.2.2.2.2.2.2.2.2.2.2.1 = q_waiting ∧ u.2.2.2.2.2.2.2.2.2.2.2.2.2.2.2.2.2.2.2.2.2.1 = q_orders ∧ u.2.2.2.2.2.2.2.2.2.2.2.2.2.2.2.2.2.2.2.2.2.2 = q_count) (t_time, t_store, t_rate, t_force, t_cleared, t_ploughed, t_failed, t_complained, s_lower, s_higher, s_kind, s_size, s_snow, s_saltEnd, s_complained, s_clearings, s_count, q_place, q_target, q_minutesLeft, q_waiting, q_orders, q_count) w (fun post => wpX5_fillStore x1 t_store (fun r a => post r (t_time, a, t_rate, t_force, t_cleared, t_ploughed, t_failed, t_complained, s_lower, s_higher, s_kind, s_size, s_snow, s_saltEnd, s_complained, s_clearings, s_count, q_place, q_target, q_minutesLeft, q_waiting, q_orders, q_count) w)) (fun m y post => wpX7_loads x1 thr m (fun r k m' => post r k m' y)) := by
  have hA := hT.1.1
  have t3 := hT.2.1.2.1
  have m3 : ∀ {m : Nat → Int32}, zM A m → m (3 : Int32).toNatClampNeg = nI (A 3) := fun hM => hM 3 (by omega)
  by_cases j1 : ∃ k : Nat, 1 ≤ k ∧ k ≤ 200 ∧ x1 = nI k
  case neg =>
    refine Or.inl ⟨-2, 1, by simp, trivial, fun post hp => ?_, fun m y hM post hp => ?_⟩
    · unfold wpX5_fillStore
      rcases z_out (a := 1) (b := 200) (by omega) (by omega) j1 with q | ⟨q1, q2⟩
      · exact br_t q hp
      · exact br_f q1 (br_f q2 hp)
    · unfold wpX7_loads
      refine m_inN (a := 1) (b := 200) (by omega) (by omega) j1 (br_m rfl ?_)
      unfold wpX7_loads_L17
      exact m_yes (br_n (by decide) hp)
  obtain ⟨v, h1, h2, rfl⟩ := j1
  have kfi : ∀ post : Int32 → Int32 → Prop, ((nI (A 3 + v) ≤ 500 → post (nI (A 3 + v)) (nI (A 3 + v))) ∧ (¬ nI (A 3 + v) ≤ 500 → post (-3) t_store)) → wpX5_fillStore (nI v) t_store post := by
    intro post hp
    unfold wpX5_fillStore
    refine br_f (nI_nlt (b := 1) h1 (by omega)) (br_t (nI_le (b := 200) h2 (by omega)) ?_)
    rw [t3, nI_add]
    rw [t3] at hp
    exact hp
  have mfi : ∀ {m : Nat → Int32} (hM : zM A m) (post : Int32 → Int32 → (Nat → Int32) → Prop), ((nI (A 3 + v) ≤ 500 → wpX7_loads_L44 (nI v) post 0 0 m) ∧ (¬ nI (A 3 + v) ≤ 500 → wpX7_loads_L44 (nI v) post 1 0 m)) → wpX7_loads (nI v) thr m post := by
    intro m hM post hp
    unfold wpX7_loads
    refine m_inI (a := 1) (b := 200) (by omega) (by omega) h1 h2 (br_n (by decide) ?_)
    unfold wpX7_loads_L17
    refine m_no (br_m rfl ⟨by unfold vp_in; decide, ?_⟩)
    rw [m3 hM, nI_add]
    exact hp
  by_cases e : A 3 + v ≤ 500
  case neg =>
    refine Or.inl ⟨-3, 2, by simp, trivial, fun post hp => kfi _ (br_f (nI_ge (b := A 3 + v) (a := 500) (by omega) (by omega)) hp), fun m y hM post hp => mfi hM _ (br_f (nI_ge (b := A 3 + v) (a := 500) (by omega) (by omega)) ?_)⟩
    unfold wpX7_loads_L44
    exact m_yes (br_f (by decide) hp)
  refine Or.inr ⟨zu A 3 (A 3 + v), A 3 + v, by omega, ⟨⟨by omega, zGo_eq hT.1 (fun k hk => zu_n (by omega))⟩, trivial⟩, by rw [zu_n (by omega)]; omega, fun post hp => kfi _ (br_t (nI_le (b := 500) e (by omega)) (hp _ w (zTc_lo hT (k := 3) (Or.inl ⟨rfl, e⟩)) ⟨rfl, rfl, rfl, rfl, rfl, rfl, rfl, rfl, rfl, rfl, rfl, rfl, rfl, rfl, rfl, rfl, rfl, rfl, rfl, rfl, rfl, rfl⟩)), fun m y hM post hp => mfi hM _ (br_t (nI_le (b := 500) e (by omega)) ?_)⟩
  unfold wpX7_loads_L44
  refine m_no (br_t rfl ⟨by unfold vp_in; decide, by unfold vp_in; decide, by unfold vp_in; decide, ?_⟩)
  rw [m3 hM, nI_add, pk_us]
  exact hp _ y (zM_u hM 3 _)
theorem m_tells {A : Nat → Nat} {m : Nat → Int32} (hM : zM A m) {k : Nat} (hk : k < 130) {x1 thr : Int32} {post : Int32 → Int32 → (Nat → Int32) → Prop} (h1 : ∀ v : Nat, v ≤ 9 → x1 = nI v → ∀ m', zM (zu A k v) m' → post (nI (A k)) 0 m') (h0 : (¬ ∃ v : Nat, 0 ≤ v ∧ v ≤ 9 ∧ x1 = nI v) → post 0 1 m) : wpX7_tells (nI k) x1 thr m post := by
  unfold wpX7_tells
  refine m_in (a := 0) (b := 9) (by omega) (by omega) (fun v _ hv e => br_n (by decide) ?_) (fun q => br_m rfl ?_)
  · unfold wpX7_tells_L16
    subst e
    refine m_no (br_t rfl ⟨vp_in_nI hk (by omega), vp_in_nI hk (by omega), ?_⟩)
    rw [nI_clamp (by omega), hM k hk]
    exact h1 v hv rfl _ (zM_u hM k v)
  · unfold wpX7_tells_L16
    exact m_yes (br_f (by decide) (h0 q))
theorem o_rate {A : Nat → Nat} {t_time t_store t_rate t_force t_cleared t_ploughed t_failed t_complained : Int32} {s_lower s_higher s_kind s_size s_snow s_saltEnd s_complained s_clearings : Nat → Int32} {s_count : Int32} {q_place q_target q_minutesLeft q_waiting q_orders : Nat → Int32} {q_count : Int32} (hT : zTc A t_time t_store t_rate t_force t_cleared t_ploughed t_failed t_complained s_lower s_higher s_kind s_size s_snow s_saltEnd s_complained s_clearings s_count q_place q_target q_minutesLeft q_waiting q_orders q_count) (x1 thr : Int32) (w : zX) :
    zAg A [(-2, 1)] 0 True (fun _ => True) (fun u => u.1 = t_time ∧ u.2.1 = t_store ∧ u.2.2.2.1 = t_force ∧ u.2.2.2.2.1 = t_cleared ∧ u.2.2.2.2.2.1 = t_ploughed ∧ u.2.2.2.2.2.2.1 = t_failed ∧ u.2.2.2.2.2.2.2.1 = t_complained ∧ u.2.2.2.2.2.2.2.2.1 = s_lower ∧ u.2.2.2.2.2.2.2.2.2.1 = s_higher ∧ u.2.2.2.2.2.2.2.2.2.2.1 = s_kind ∧ u.2.2.2.2.2.2.2.2.2.2.2.1 = s_size ∧ u.2.2.2.2.2.2.2.2.2.2.2.2.1 = s_snow ∧ u.2.2.2.2.2.2.2.2.2.2.2.2.2.1 = s_saltEnd ∧ u.2.2.2.2.2.2.2.2.2.2.2.2.2.2.1 = s_complained ∧ u.2.2.2.2.2.2.2.2.2.2.2.2.2.2.2.1 = s_clearings ∧ u.2.2.2.2.2.2.2.2.2.2.2.2.2.2.2.2.1 = s_count ∧ u.2.2.2.2.2.2.2.2.2.2.2.2.2.2.2.2.2.1 = q_place ∧ u.2.2.2.2.2.2.2.2.2.2.2.2.2.2.2.2.2.2.1 = q_target ∧ u.2.2.2.2.2.2.2.2.2.2.2.2.2.2.2.2.2.2.2.1 = q_minutesLeft ∧ u.2.2.2.2.2.2.2.2.2.2.2.2.2.2.2.2.2.2.2.2.1 = q_waiting ∧ u.2.2.2.2.2.2.2.2.2.2.2.2.2.2.2.2.2.2.2.2.2.1 = q_orders ∧ u.2.2.2.2.2.2.2.2.2.2.2.2.2.2.2.2.2.2.2.2.2.2 = q_count) (t_time, t_store, t_rate, t_force, t_cleared, t_ploughed, t_failed, t_complained, s_lower, s_higher, s_kind, s_size, s_snow, s_saltEnd, s_complained, s_clearings, s_count, q_place, q_target, q_minutesLeft, q_waiting, q_orders, q_count) w (fun post => wpX5_changeRate x1 t_rate (fun r a => post r (t_time, t_store, a, t_force, t_cleared, t_ploughed, t_failed, t_complained, s_lower, s_higher, s_kind, s_size, s_snow, s_saltEnd, s_complained, s_clearings, s_count, q_place, q_target, q_minutesLeft, q_waiting, q_orders, q_count) w)) (fun m y post => wpX7_tells 4 x1 thr m (fun r k m' => post r k m' y)) := by
  have hA := hT.1.1
  have t4 := hT.2.1.2.2.1
  by_cases j1 : ∃ v : Nat, 0 ≤ v ∧ v ≤ 9 ∧ x1 = nI v
  case neg =>
    refine Or.inl ⟨-2, 1, by simp, trivial, fun post hp => ?_, fun m y hM post hp => m_tells hM (k := 4) (by omega) (fun v hv e => absurd ⟨v, Nat.zero_le _, hv, e⟩ j1) (fun _ => hp)⟩
    unfold wpX5_changeRate
    rcases z_out (a := 0) (b := 9) (by omega) (by omega) j1 with q | ⟨q1, q2⟩
    · exact br_t q hp
    · exact br_f q1 (br_f q2 hp)
  obtain ⟨v, -, h2, rfl⟩ := j1
  refine Or.inr ⟨zu A 4 v, A 4, by omega, ⟨⟨by omega, zGo_eq hT.1 (fun k hk => zu_n (by omega))⟩, trivial⟩, by rw [zu_n (by omega)]; omega, fun post hp => ?_, fun m y hM post hp => m_tells hM (k := 4) (by omega) (fun v' hv e m' hm' => ?_) (fun q => absurd ⟨v, Nat.zero_le _, h2, rfl⟩ q)⟩
  · unfold wpX5_changeRate
    refine br_f (nI_pos (by omega)) (br_t (nI_le (b := 9) h2 (by omega)) ?_)
    rw [t4]
    exact hp _ w (zTc_lo hT (k := 4) (Or.inr ⟨Or.inl rfl, h2⟩)) ⟨rfl, rfl, rfl, rfl, rfl, rfl, rfl, rfl, rfl, rfl, rfl, rfl, rfl, rfl, rfl, rfl, rfl, rfl, rfl, rfl, rfl, rfl⟩
  · rw [(nI_eq (a := v) (b := v') (by omega) (by omega)).mp e] at hp
    exact hp _ y hm'
theorem o_wind {A : Nat → Nat} {t_time t_store t_rate t_force t_cleared t_ploughed t_failed t_complained : Int32} {s_lower s_higher s_kind s_size s_snow s_saltEnd s_complained s_clearings : Nat → Int32} {s_count : Int32} {q_place q_target q_minutesLeft q_waiting q_orders : Nat → Int32} {q_count : Int32} (hT : zTc A t_time t_store t_rate t_force t_cleared t_ploughed t_failed t_complained s_lower s_higher s_kind s_size s_snow s_saltEnd s_complained s_clearings s_count q_place q_target q_minutesLeft q_waiting q_orders q_count) (x1 thr : Int32) (w : zX) :
    zAg A [(-2, 1)] 0 True (fun _ => True) (fun u => u.1 = t_time ∧ u.2.1 = t_store ∧ u.2.2.1 = t_rate ∧ u.2.2.2.2.1 = t_cleared ∧ u.2.2.2.2.2.1 = t_ploughed ∧ u.2.2.2.2.2.2.1 = t_failed ∧ u.2.2.2.2.2.2.2.1 = t_complained ∧ u.2.2.2.2.2.2.2.2.1 = s_lower ∧ u.2.2.2.2.2.2.2.2.2.1 = s_higher ∧ u.2.2.2.2.2.2.2.2.2.2.1 = s_kind ∧ u.2.2.2.2.2.2.2.2.2.2.2.1 = s_size ∧ u.2.2.2.2.2.2.2.2.2.2.2.2.1 = s_snow ∧ u.2.2.2.2.2.2.2.2.2.2.2.2.2.1 = s_saltEnd ∧ u.2.2.2.2.2.2.2.2.2.2.2.2.2.2.1 = s_complained ∧ u.2.2.2.2.2.2.2.2.2.2.2.2.2.2.2.1 = s_clearings ∧ u.2.2.2.2.2.2.2.2.2.2.2.2.2.2.2.2.1 = s_count ∧ u.2.2.2.2.2.2.2.2.2.2.2.2.2.2.2.2.2.1 = q_place ∧ u.2.2.2.2.2.2.2.2.2.2.2.2.2.2.2.2.2.2.1 = q_target ∧ u.2.2.2.2.2.2.2.2.2.2.2.2.2.2.2.2.2.2.2.1 = q_minutesLeft ∧ u.2.2.2.2.2.2.2.2.2.2.2.2.2.2.2.2.2.2.2.2.1 = q_waiting ∧ u.2.2.2.2.2.2.2.2.2.2.2.2.2.2.2.2.2.2.2.2.2.1 = q_orders ∧ u.2.2.2.2.2.2.2.2.2.2.2.2.2.2.2.2.2.2.2.2.2.2 = q_count) (t_time, t_store, t_rate, t_force, t_cleared, t_ploughed, t_failed, t_complained, s_lower, s_higher, s_kind, s_size, s_snow, s_saltEnd, s_complained, s_clearings, s_count, q_place, q_target, q_minutesLeft, q_waiting, q_orders, q_count) w (fun post => wpX5_changeForce x1 t_force (fun r a => post r (t_time, t_store, t_rate, a, t_cleared, t_ploughed, t_failed, t_complained, s_lower, s_higher, s_kind, s_size, s_snow, s_saltEnd, s_complained, s_clearings, s_count, q_place, q_target, q_minutesLeft, q_waiting, q_orders, q_count) w)) (fun m y post => wpX7_tells 5 x1 thr m (fun r k m' => post r k m' y)) := by
  have hA := hT.1.1
  have t5 := hT.2.1.2.2.2.1
  by_cases j1 : ∃ v : Nat, 0 ≤ v ∧ v ≤ 9 ∧ x1 = nI v
  case neg =>
    refine Or.inl ⟨-2, 1, by simp, trivial, fun post hp => ?_, fun m y hM post hp => m_tells hM (k := 5) (by omega) (fun v hv e => absurd ⟨v, Nat.zero_le _, hv, e⟩ j1) (fun _ => hp)⟩
    unfold wpX5_changeForce
    rcases z_out (a := 0) (b := 9) (by omega) (by omega) j1 with q | ⟨q1, q2⟩
    · exact br_t q hp
    · exact br_f q1 (br_f q2 hp)
  obtain ⟨v, -, h2, rfl⟩ := j1
  refine Or.inr ⟨zu A 5 v, A 5, by omega, ⟨⟨by omega, zGo_eq hT.1 (fun k hk => zu_n (by omega))⟩, trivial⟩, by rw [zu_n (by omega)]; omega, fun post hp => ?_, fun m y hM post hp => m_tells hM (k := 5) (by omega) (fun v' hv e m' hm' => ?_) (fun q => absurd ⟨v, Nat.zero_le _, h2, rfl⟩ q)⟩
  · unfold wpX5_changeForce
    refine br_f (nI_pos (by omega)) (br_t (nI_le (b := 9) h2 (by omega)) ?_)
    rw [t5]
    exact hp _ w (zTc_lo hT (k := 5) (Or.inr ⟨Or.inr rfl, h2⟩)) ⟨rfl, rfl, rfl, rfl, rfl, rfl, rfl, rfl, rfl, rfl, rfl, rfl, rfl, rfl, rfl, rfl, rfl, rfl, rfl, rfl, rfl, rfl⟩
  · rw [(nI_eq (a := v) (b := v') (by omega) (by omega)).mp e] at hp
    exact hp _ y hm'
/-- how many streets are cleared in a plough's minute, in a minute, in minutes -/
theorem zb1_6 {A : Nat → Nat} (h : zI A) {j : Nat} (hj : j < A 2) : zb1 A j 6 = A 6 := by
  unfold zb1
  split
  · unfold zta
    rw [zbg_o (by omega) (by omega), ztk_o (zI_pl h hj).2.2.2.1 (by omega)]
  · rfl
theorem zwk2_6 {A : Nat → Nat} {j : Nat} : zwk2 A j 6 = A 6 ∨ zwk2 A j 6 = A 6 + 1 := by
  unfold zwk2
  split
  · exact Or.inl rfl
  · split
    · refine Or.inr ?_
      unfold zcl
      rw [zu_n (by omega), zu_n (by omega), zu_n (by omega), zu_s, zu_n (by omega)]
    · exact Or.inl (zu_n (by omega))
theorem zpm_6 {A : Nat → Nat} (h : zI A) {j : Nat} (hj : j < A 2) : A 6 ≤ zpm A j 6 ∧ zpm A j 6 ≤ A 6 + 1 := by
  have a := zb1_6 h hj
  have b := @zwk2_6 (zb1 A j) j
  unfold zpm
  omega
theorem zps_6 {A : Nat → Nat} (h : zI A) : ∀ j : Nat, j ≤ A 2 → A 6 ≤ zps A j 6 ∧ zps A j 6 ≤ A 6 + j
  | 0, _ => by
    show A 6 ≤ zu A 0 (A 0 + 1) 6 ∧ zu A 0 (A 0 + 1) 6 ≤ A 6 + 0
    rw [zu_n (by omega)]
    omega
  | j + 1, hj => by
    have a := zps_6 h j (by omega)
    obtain ⟨b, -⟩ := zps_I h j (by omega)
    have e2 : zps A j 2 = A 2 := zps_k h (by omega) (by omega) (by omega)
    have c := zpm_6 b (j := j) (by omega)
    show A 6 ≤ zpm (zps A j) j 6 ∧ zpm (zps A j) j 6 ≤ A 6 + (j + 1)
    omega
theorem zmin_6 {A : Nat → Nat} (h : zI A) : A 6 ≤ zmin A 6 ∧ zmin A 6 ≤ A 6 + 4 := by
  have a := zps_6 h (A 2) (Nat.le_refl _)
  have b := h.1.2.1
  unfold zmin
  split
  · rw [zhour_lo (by omega)]
    omega
  · omega
theorem zit_6 {A : Nat → Nat} (h : zI A) : ∀ k, A 6 ≤ zit A k 6 ∧ zit A k 6 ≤ A 6 + 4 * k
  | 0 => ⟨Nat.le_refl _, Nat.le_refl _⟩
  | k + 1 => by
    have a := zit_6 h k
    have b := zmin_6 (zit_I h k).1
    show A 6 ≤ zmin (zit A k) 6 ∧ zmin (zit A k) 6 ≤ A 6 + 4 * (k + 1)
    omega
/-- the minutes in the class -/
theorem k_wait {A : Nat → Nat} {t_time t_store t_rate t_force t_cleared t_ploughed t_failed t_complained : Int32} {s_lower s_higher s_kind s_size s_snow s_saltEnd s_complained s_clearings : Nat → Int32} {s_count : Int32} {q_place q_target q_minutesLeft q_waiting q_orders : Nat → Int32} {q_count : Int32} (hT : zTc A t_time t_store t_rate t_force t_cleared t_ploughed t_failed t_complained s_lower s_higher s_kind s_size s_snow s_saltEnd s_complained s_clearings s_count q_place q_target q_minutesLeft q_waiting q_orders q_count) {n : Nat} (hn1 : 1 ≤ n) (hn : n ≤ 600) (h29 : A 0 + n < 2 ^ 29) {w_reach w_settled : Nat → Int32}
    {post : Int32 → Int32 → Int32 → Int32 → Int32 → Int32 → (Nat → Int32) → (Nat → Int32) → (Nat → Int32) → (Nat → Int32) → (Nat → Int32) → (Nat → Int32) → (Nat → Int32) → (Nat → Int32) → (Nat → Int32) → (Nat → Int32) → Prop}
    (h : ∀ t c p f tt r s sn co cl pl tg mm w o, zTc (zit A n) t t_store t_rate t_force c p f tt s_lower s_higher s_kind s_size sn s_saltEnd co cl s_count pl tg mm w o q_count → (∀ C, zL s_clearings (A 1) C → zL cl (A 1) (fun i => C i + zkk A i n)) → post (nI (zit A n 6 - A 6)) t c p f tt r s sn co cl pl tg mm w o) :
    wpX5_passMinutes (nI n) t_time t_rate t_force t_cleared t_ploughed t_failed t_complained w_reach w_settled s_lower s_higher s_kind s_size s_snow s_saltEnd s_complained s_clearings s_count q_place q_target q_minutesLeft q_waiting q_orders q_count post := by
  obtain ⟨hI, ⟨t0, t3, t4, t5, t6, t7, t8, t9⟩, ⟨s0, hl, hh, hk, hz, hsn, hse, hco⟩, hQ, hK, C, hC, hC4⟩ := hT
  have hA := hI.1
  have q0 := hQ.1
  subst t4 t5 s0 q0
  obtain ⟨hIn, hsm, h0n⟩ := zit_I hI n
  have e1 := hsm.1 1 (by omega) (by omega)
  have e2 := hsm.1 2 (by omega) (by omega)
  have hF : zF A s_lower s_higher s_kind s_size s_saltEnd := ⟨hl, hh, hk, hz, hse⟩
  have hW : ∀ C', zL s_clearings (A 1) C' → zW A C' t_time t_cleared t_ploughed t_failed t_complained s_snow s_complained s_clearings q_place q_target q_minutesLeft q_waiting q_orders := fun C' hC' => ⟨t0, t9, hco, t6, t7, t8, hsn, hC', hQ⟩
  refine k_pass hI hn1 hn h29 hF (hW C hC) (fun t c p f tt r s sn co cl pl tg mm w o hW' => ?_)
  obtain ⟨w0, w9, wco, w6, w7, w8, wsn, wcl, wQ⟩ := hW'
  obtain ⟨f1, f2, f3, f4, f5⟩ := zF_0 hsm hF
  have h6 := zit_6 hI n
  rw [pk_sub h6.1]
  rw [e1] at wcl
  refine h t c p f tt r s sn co cl pl tg mm w o ⟨hIn, ⟨w0, by rw [hsm.1 3 (by omega) (by omega)]; exact t3, by rw [hsm.1 4 (by omega) (by omega)], by rw [hsm.1 5 (by omega) (by omega)], w6, w7, w8, w9⟩, ⟨by rw [e1], f1, f2, f3, f4, wsn, f5, wco⟩, by rw [← e2]; exact wQ, hK, fun i => C i + zkk A i n, by rw [e1]; exact wcl, fun i hi => ?_⟩ (fun C' hC' i hi => ?_)
  · rw [e1] at hi
    have a := hC4 i hi
    have b := zkk_le hI i n
    show C i + zkk A i n ≤ 4 * zit A n 0
    rw [h0n]
    omega
  · rw [wcl i hi]
    dsimp only
    have e := (hC i hi).symm.trans (hC' i hi)
    rw [← nI_add, ← nI_add, e]
theorem o_wait {A : Nat → Nat} {t_time t_store t_rate t_force t_cleared t_ploughed t_failed t_complained : Int32} {s_lower s_higher s_kind s_size s_snow s_saltEnd s_complained s_clearings : Nat → Int32} {s_count : Int32} {q_place q_target q_minutesLeft q_waiting q_orders : Nat → Int32} {q_count : Int32} (hT : zTc A t_time t_store t_rate t_force t_cleared t_ploughed t_failed t_complained s_lower s_higher s_kind s_size s_snow s_saltEnd s_complained s_clearings s_count q_place q_target q_minutesLeft q_waiting q_orders q_count) (h29 : A 0 + 600 < 2 ^ 29) (x1 thr : Int32) (w : zX) :
    zAg A [(-2, 1)] 600 True (fun _ => True) (fun u => u.2.1 = t_store ∧ u.2.2.1 = t_rate ∧ u.2.2.2.1 = t_force ∧ u.2.2.2.2.2.2.2.2.1 = s_lower ∧ u.2.2.2.2.2.2.2.2.2.1 = s_higher ∧ u.2.2.2.2.2.2.2.2.2.2.1 = s_kind ∧ u.2.2.2.2.2.2.2.2.2.2.2.1 = s_size ∧ u.2.2.2.2.2.2.2.2.2.2.2.2.2.1 = s_saltEnd ∧ u.2.2.2.2.2.2.2.2.2.2.2.2.2.2.2.2.1 = s_count ∧ u.2.2.2.2.2.2.2.2.2.2.2.2.2.2.2.2.2.2.2.2.2.2 = q_count) (t_time, t_store, t_rate, t_force, t_cleared, t_ploughed, t_failed, t_complained, s_lower, s_higher, s_kind, s_size, s_snow, s_saltEnd, s_complained, s_clearings, s_count, q_place, q_target, q_minutesLeft, q_waiting, q_orders, q_count) w (fun post => wpX5_passMinutes x1 t_time t_rate t_force t_cleared t_ploughed t_failed t_complained w.1 w.2 s_lower s_higher s_kind s_size s_snow s_saltEnd s_complained s_clearings s_count q_place q_target q_minutesLeft q_waiting q_orders q_count (fun r t c p f tt rr ss sn co cl pl tg mm wa o => post r (t, t_store, t_rate, t_force, c, p, f, tt, s_lower, s_higher, s_kind, s_size, sn, s_saltEnd, co, cl, s_count, pl, tg, mm, wa, o, q_count) (rr, ss))) (fun m y post => wpX7_waits x1 thr y.1 m y.2.1 y.2.2 (fun r k a m' f d => post r k m' (a, f, d))) := by
  have hI := hT.1
  by_cases j1 : ∃ k : Nat, 1 ≤ k ∧ k ≤ 600 ∧ x1 = nI k
  case neg =>
    refine Or.inl ⟨-2, 1, by simp, trivial, fun post hp => ?_, fun m y hM post hp => ?_⟩
    · unfold wpX5_passMinutes
      rcases z_out (a := 1) (b := 600) (by omega) (by omega) j1 with q | ⟨q1, q2⟩
      · exact br_t q hp
      · exact br_f q1 (br_f q2 hp)
    · unfold wpX7_waits
      refine m_inN (a := 1) (b := 600) (by omega) (by omega) j1 (br_m rfl ?_)
      unfold wpX7_waits_L17
      exact m_yes (br_f (by decide) hp)
  obtain ⟨n, h1, h2, rfl⟩ := j1
  have h6 := zit_6 hI n
  refine Or.inr ⟨zit A n, zit A n 6 - A 6, by omega, ⟨⟨by omega, zit_Go hI n⟩, trivial⟩, by rw [(zit_I hI n).2.2]; omega, fun post hp => ?_, fun m y hM post hp => ?_⟩
  · exact k_wait hT h1 h2 (by omega) (fun t c p f tt r s sn co cl pl tg mm wa o hT' _ => hp _ _ hT' ⟨rfl, rfl, rfl, rfl, rfl, rfl, rfl, rfl, rfl, rfl⟩)
  · refine m_waits hI h1 h2 (by omega) hM (fun a m' f d hm' => ?_)
    rw [pk_sub h6.1]
    exact hp _ _ hm'

