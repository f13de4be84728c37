/-! numbers: branches, towns as rows of naturals -/
theorem br_n {c A B : Prop} (h : ¬ c) (a : A) : (¬ c → A) ∧ (c → B) := ⟨fun _ => a, fun q => absurd q h⟩
theorem br_m {c A B : Prop} (h : c) (b : B) : (¬ c → A) ∧ (c → B) := ⟨fun q => absurd h q, fun _ => b⟩
theorem br_i {c A B : Prop} (a : ¬ c → A) (b : c → B) : (¬ c → A) ∧ (c → B) := ⟨a, b⟩
theorem z_lt {a b : Nat} (ha : a < 2 ^ 31) (hb : b < 2 ^ 31) : nI a < nI b ↔ a < b := nI_ltI ha hb
/-- a row of naturals with one place changed -/
def zu (A : Nat → Nat) (k v : Nat) : Nat → Nat := fun j => if j = k then v else A j
theorem zu_s {A : Nat → Nat} {k v : Nat} : zu A k v k = v := if_pos rfl
theorem zu_n {A : Nat → Nat} {k v j : Nat} (h : j ≠ k) : zu A k v j = A j := if_neg h
theorem z_in {x : Int32} {n : Nat} (hn : n < 2 ^ 31) (h : ¬ ∃ a : Nat, a < n ∧ x = nI a) : x < 0 ∨ nI n ≤ x := by
  rcases pk_ix x hn with q | q | q
  · exact Or.inl q
  · exact Or.inr q
  · exact absurd q h
/-- an int in a row from a to b, or not -/
theorem z_rng (x : Int32) (a b : Nat) (ha : a < 2 ^ 31) (hb : b < 2 ^ 31) : x < nI a ∨ nI b < x ∨ ∃ k : Nat, a ≤ k ∧ k ≤ b ∧ x = nI k := by
  by_cases h1 : x < nI a
  · exact Or.inl h1
  · by_cases h2 : nI b < x
    · exact Or.inr (Or.inl h2)
    · rw [Int32.lt_iff_toInt_lt] at h1 h2
      rw [nI_toInt ha] at h1
      rw [nI_toInt hb] at h2
      refine Or.inr (Or.inr ⟨x.toInt.toNat, by omega, by omega, Int32.toInt_inj.mp ?_⟩)
      rw [nI_toInt (by omega)]
      omega
/-- the model's row of 130 cells -/
def zM (A : Nat → Nat) (m : Nat → Int32) : Prop := ∀ k : Nat, k < 130 → m k = nI (A k)
theorem zM_u {A : Nat → Nat} {m : Nat → Int32} (h : zM A m) (k v : Nat) : zM (zu A k v) (upd m k (nI v)) := by
  intro j hj
  unfold upd zu
  split
  · rfl
  · exact h j hj
/-- a row that holds numbers below n -/
def zL (f : Nat → Int32) (n : Nat) (a : Nat → Nat) : Prop := ∀ i : Nat, i < n → f i = nI (a i)
theorem zg {f : Nat → Int32} {n : Nat} {a : Nat → Nat} (h : zL f n a) (i : Nat) (hi : i < n) : f i = nI (a i) := h i hi
theorem zL_u {f : Nat → Int32} {n : Nat} {a : Nat → Nat} (h : zL f n a) (k v : Nat) : zL (upd f k (nI v)) n (zu a k v) := by
  intro j hj
  unfold upd zu
  split
  · rfl
  · exact h j hj
/-- what a town must be -/
def zI (A : Nat → Nat) : Prop :=
  (A 1 ≤ 12 ∧ A 2 ≤ 4 ∧ A 3 ≤ 500 ∧ A 4 ≤ 9 ∧ A 5 ≤ 9) ∧
  (∀ i : Nat, i < A 1 → A (10 + 7 * i) < A (11 + 7 * i) ∧ A (11 + 7 * i) < 8 ∧ 97 ≤ A (12 + 7 * i) ∧ A (12 + 7 * i) ≤ 99 ∧ 1 ≤ A (13 + 7 * i) ∧ A (13 + 7 * i) ≤ 9 ∧ A (14 + 7 * i) ≤ 200 ∧ A (15 + 7 * i) ≤ A 0 + 240) ∧
  (∀ i k : Nat, A 1 ≤ i → i < 12 → k < 7 → A (10 + 7 * i + k) = 0) ∧
  (∀ i j : Nat, i < A 1 → j < A 1 → A (10 + 7 * i) = A (10 + 7 * j) → A (11 + 7 * i) = A (11 + 7 * j) → i = j) ∧
  (∀ j : Nat, j < A 2 → A (94 + 9 * j) < 8 ∧ A (95 + 9 * j) ≤ 200 ∧ (0 < A (95 + 9 * j) → A (96 + 9 * j) < A 1) ∧ A (97 + 9 * j) ≤ 5 ∧ ∀ k : Nat, k < A (97 + 9 * j) → A (98 + 9 * j + k) < A 1) ∧
  (∀ j k : Nat, A 2 ≤ j → j < 4 → k < 9 → A (94 + 9 * j + k) = 0)
/-- the streets of the class -/
def zS (A : Nat → Nat) (s_lower s_higher s_kind s_size s_snow s_saltEnd s_complained : Nat → Int32) (s_count : Int32) : Prop :=
  s_count = nI (A 1) ∧ zL s_lower (A 1) (fun i => A (10 + 7 * i)) ∧ zL s_higher (A 1) (fun i => A (11 + 7 * i)) ∧ zL s_kind (A 1) (fun i => A (12 + 7 * i)) ∧ zL s_size (A 1) (fun i => A (13 + 7 * i)) ∧ zL s_snow (A 1) (fun i => A (14 + 7 * i)) ∧ zL s_saltEnd (A 1) (fun i => A (15 + 7 * i)) ∧ zL s_complained (A 1) (fun i => A (16 + 7 * i))
/-- its ploughs -/
def zQ (A : Nat → Nat) (q_place q_target q_minutesLeft q_waiting q_orders : Nat → Int32) (q_count : Int32) : Prop :=
  q_count = nI (A 2) ∧ zL q_place (A 2) (fun j => A (94 + 9 * j)) ∧ (∀ j : Nat, j < A 2 → 0 < A (95 + 9 * j) → q_target j = nI (A (96 + 9 * j))) ∧ zL q_minutesLeft (A 2) (fun j => A (95 + 9 * j)) ∧ zL q_waiting (A 2) (fun j => A (97 + 9 * j)) ∧ ∀ j : Nat, j < A 2 → ∀ k : Nat, k < A (97 + 9 * j) → q_orders (5 * j + k) = nI (A (98 + 9 * j + k))
/-- its sums -/
def zT (A : Nat → Nat) (t_time t_store t_rate t_force t_cleared t_ploughed t_failed t_complained : Int32) : Prop :=
  t_time = nI (A 0) ∧ t_store = nI (A 3) ∧ t_rate = nI (A 4) ∧ t_force = nI (A 5) ∧ t_cleared = nI (A 6) ∧ t_ploughed = nI (A 7) ∧ t_failed = nI (A 8) ∧ t_complained = nI (A 9)
/-- the row of kinds keeps characters -/
def zK (s_kind : Nat → Int32) : Prop := ∀ i : Nat, i < 12 → fits .char (.int (s_kind i)) = true
/-- the edges of a town -/
def zG (A : Nat → Nat) (x y l : Nat) : Prop := ∃ i : Nat, i < A 1 ∧ A (13 + 7 * i) = l ∧ ((A (10 + 7 * i) = x ∧ A (11 + 7 * i) = y) ∨ (A (10 + 7 * i) = y ∧ A (11 + 7 * i) = x))
theorem zG_E {A : Nat → Nat} (h : zI A) : zE (zG A) := by
  constructor
  · rintro x y l ⟨i, hi, rfl, hxy⟩
    have := h.2.1 i hi
    rcases hxy with ⟨rfl, rfl⟩ | ⟨rfl, rfl⟩ <;> omega
  · rintro x y l ⟨i, hi, rfl, hxy⟩
    exact ⟨i, hi, rfl, hxy.symm⟩
theorem zG_ne {A : Nat → Nat} (h : zI A) {x y l : Nat} (he : zG A x y l) : x ≠ y := by
  obtain ⟨i, hi, rfl, hxy⟩ := he
  have := h.2.1 i hi
  rcases hxy with ⟨rfl, rfl⟩ | ⟨rfl, rfl⟩ <;> omega
theorem zG_one {A : Nat → Nat} (h : zI A) {x y l l' : Nat} (he : zG A x y l) (he' : zG A x y l') : l = l' := by
  obtain ⟨i, hi, rfl, hxy⟩ := he
  obtain ⟨j, hj, rfl, hxy'⟩ := he'
  have a := h.2.1 i hi
  have b := h.2.1 j hj
  have : i = j := by
    refine h.2.2.2.1 i j hi hj ?_ ?_ <;> rcases hxy with ⟨h1, h2⟩ | ⟨h1, h2⟩ <;> rcases hxy' with ⟨h3, h4⟩ | ⟨h3, h4⟩ <;> omega
  rw [this]
/-- the edges stand where the streets do -/
theorem zG_eq {A B : Nat → Nat} (h1 : A 1 = B 1) (h : ∀ i : Nat, i < B 1 → A (10 + 7 * i) = B (10 + 7 * i) ∧ A (11 + 7 * i) = B (11 + 7 * i) ∧ A (13 + 7 * i) = B (13 + 7 * i)) : zG A = zG B := by
  funext x y l
  refine propext ⟨?_, ?_⟩
  · rintro ⟨i, hi, hl, hxy⟩
    have hi' : i < B 1 := by omega
    obtain ⟨a, b, c⟩ := h i hi'
    rw [a, b] at hxy
    exact ⟨i, hi', by rw [← c]; exact hl, hxy⟩
  · rintro ⟨i, hi, hl, hxy⟩
    obtain ⟨a, b, c⟩ := h i hi
    rw [← a, ← b] at hxy
    exact ⟨i, by omega, by rw [c]; exact hl, hxy⟩
/-- the distances in a town -/
noncomputable def zD (A : Nat → Nat) (u : Nat) : Nat → Nat := zds (zG A) u
theorem zD_sp {A : Nat → Nat} (h : zI A) (u : Nat) : zSP (zG A) u (zD A u) := zds_sp (zG_E h) u
/-- how the class writes a distance -/
def zcd (n : Nat) : Nat := if n < 9999 then n else 1000000
theorem zcd_le {n : Nat} : zcd n ≤ 1000000 := by
  unfold zcd
  split <;> omega
theorem zcd_fin {n : Nat} : zcd n < 1000000 ↔ n < 9999 := by
  unfold zcd
  split <;> omega
theorem zcd_lt {a b : Nat} (ha : a ≤ 9999) (hb : b ≤ 9999) : zcd a < zcd b ↔ a < b := by
  unfold zcd
  split <;> split <;> omega

