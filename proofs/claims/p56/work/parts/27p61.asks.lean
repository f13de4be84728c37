/-! what the questions answer -/
theorem z_c16 {a : Nat} (h : a < 65536) : ((nI a).toUInt32 % 65536).toInt32 = nI a := by
  rw [pk_char, pk_tn (by omega), Nat.mod_eq_of_lt h]
theorem m_ofS {A : Nat → Nat} {m : Nat → Int32} (hM : zM A m) (hn : A 1 ≤ 12) {i : Nat} (hi : i < A 1) (k : Nat) {kI : Int32} (hk : kI = nI k) (hk7 : k < 7) {thr : Int32} {post : Int32 → Int32 → Prop} (h : post (nI (A (10 + 7 * i + k))) 0) : wpX7_ofStreet (nI i) kI thr m post := by
  unfold wpX7_ofStreet
  refine m_isSI hM hn hi (br_n (by decide) ?_)
  unfold wpX7_ofStreet_L14
  exact m_no (br_t rfl (m_of hM i k hk (by omega) h))
theorem m_ofSN {A : Nat → Nat} {m : Nat → Int32} (hM : zM A m) (hn : A 1 ≤ 12) {x kI thr : Int32} {post : Int32 → Int32 → Prop} (j : ¬ ∃ i : Nat, i < A 1 ∧ x = nI i) (h : post 0 1) : wpX7_ofStreet x kI thr m post := by
  unfold wpX7_ofStreet
  refine m_isSN hM hn j (br_m rfl ?_)
  unfold wpX7_ofStreet_L14
  exact m_yes (br_f (by decide) h)
theorem m_tlP {A : Nat → Nat} {m : Nat → Int32} (hM : zM A m) (hn : A 2 ≤ 4) {i : Nat} (hi : i < A 2) (k : Nat) {kI : Int32} (hk : kI = nI k) (hk7 : k < 9) {thr : Int32} {post : Int32 → Int32 → Prop} (h : post (nI (A (94 + 9 * i + k))) 0) : wpX7_tellsPlough (nI i) kI thr m post := by
  unfold wpX7_tellsPlough
  refine m_isPI hM hn hi (br_n (by decide) ?_)
  unfold wpX7_tellsPlough_L14
  exact m_no (br_t rfl (m_ofP hM i k hk (by omega) h))
theorem m_tlPN {A : Nat → Nat} {m : Nat → Int32} (hM : zM A m) (hn : A 2 ≤ 4) {x kI thr : Int32} {post : Int32 → Int32 → Prop} (j : ¬ ∃ i : Nat, i < A 2 ∧ x = nI i) (h : post 0 1) : wpX7_tellsPlough x kI thr m post := by
  unfold wpX7_tellsPlough
  refine m_isPN hM hn j (br_m rfl ?_)
  unfold wpX7_tellsPlough_L14
  exact m_yes (br_f (by decide) h)
theorem z_eqv {x y : Int32} {P : Prop} (e : x = y) (h : P) : (x = y → P) ∧ (¬ x = y → False) := ⟨fun _ => h, fun q => q e⟩
/-- a yes or no, told as a long -/
theorem z_okB1 {o : Nat → Int64} {P : Prop} (h : P) : (((0 : Int32) = 0 → ((¬ (0 : Int32) = 0 → P) ∧ ((0 : Int32) = 0 → (((1 : Int32) = 0 → ((lg_cmp (vp_updL o (0 : Int32).toNatClampNeg 1 (0 : Int32).toNatClampNeg) (0 : Int64) = 0 → P) ∧ (¬ lg_cmp (vp_updL o (0 : Int32).toNatClampNeg 1 (0 : Int32).toNatClampNeg) (0 : Int64) = 0 → False))) ∧ (¬ (1 : Int32) = 0 → ((lg_cmp (vp_updL o (0 : Int32).toNatClampNeg 1 (0 : Int32).toNatClampNeg) (1 : Int64) = 0 → P) ∧ (¬ lg_cmp (vp_updL o (0 : Int32).toNatClampNeg 1 (0 : Int32).toNatClampNeg) (1 : Int64) = 0 → False))))))) ∧ (¬ (0 : Int32) = 0 → False)) :=
  ⟨fun _ => ⟨fun _ => h, fun _ => ⟨fun q => absurd q (by decide), fun _ => ⟨fun _ => h, fun q => q z_cmp⟩⟩⟩, fun q => q rfl⟩
theorem z_okB0 {o : Nat → Int64} {P : Prop} (h : P) : (((0 : Int32) = 0 → ((¬ (0 : Int32) = 0 → P) ∧ ((0 : Int32) = 0 → (((0 : Int32) = 0 → ((lg_cmp (vp_updL o (0 : Int32).toNatClampNeg 0 (0 : Int32).toNatClampNeg) (0 : Int64) = 0 → P) ∧ (¬ lg_cmp (vp_updL o (0 : Int32).toNatClampNeg 0 (0 : Int32).toNatClampNeg) (0 : Int64) = 0 → False))) ∧ (¬ (0 : Int32) = 0 → ((lg_cmp (vp_updL o (0 : Int32).toNatClampNeg 0 (0 : Int32).toNatClampNeg) (1 : Int64) = 0 → P) ∧ (¬ lg_cmp (vp_updL o (0 : Int32).toNatClampNeg 0 (0 : Int32).toNatClampNeg) (1 : Int64) = 0 → False))))))) ∧ (¬ (0 : Int32) = 0 → False)) :=
  ⟨fun _ => ⟨fun _ => h, fun _ => ⟨fun _ => ⟨fun _ => h, fun q => q z_cmp⟩, fun q => absurd rfl q⟩⟩, fun q => q rfl⟩
