/-! the order by urgency -/
theorem z_d2 {a b c d : Nat} (ha : a < 2 ^ 29) (hb : b < 2 ^ 29) (hc : c < 2 ^ 29) (hd : d < 2 ^ 29) : (((nI a - nI b) - nI c) + nI d).toInt = (a : Int) - b - c + d := by
  have e1 : ((nI a - nI b) - nI c).toInt = (a : Int) - b - c := by
    rw [Int32.toInt_sub, pk_sub_toInt (by omega) (by omega), nI_toInt (by omega)]
    exact Int.bmod_eq_of_le (by omega) (by omega)
  rw [Int32.toInt_add, e1, nI_toInt (by omega)]
  exact Int.bmod_eq_of_le (by omega) (by omega)
theorem z_sub_eq {a b c d : Nat} (ha : a < 2 ^ 30) (hb : b < 2 ^ 30) (hc : c < 2 ^ 30) (hd : d < 2 ^ 30) : nI a - nI b = nI c - nI d ↔ a + d = c + b := by
  rw [← Int32.toInt_inj, pk_sub_toInt ha hb, pk_sub_toInt hc hd]
  omega
theorem z_sub_cm {a b c d : Nat} (ha : a < 2 ^ 30) (hb : b < 2 ^ 30) (hc : c < 2 ^ 30) (hd : d < 2 ^ 30) : nI a - nI b ≤ nI c - nI d ↔ a + d ≤ c + b := by
  rw [Int32.le_iff_toInt_le, pk_sub_toInt ha hb, pk_sub_toInt hc hd]
  omega
/-- street x comes before street y -/
abbrev zpre (A : Nat → Nat) (x y : Nat) : Prop := A (14 + 7 * y) + zlim (A (12 + 7 * x)) < A (14 + 7 * x) + zlim (A (12 + 7 * y)) ∨ (A (14 + 7 * y) + zlim (A (12 + 7 * x)) = A (14 + 7 * x) + zlim (A (12 + 7 * y)) ∧ (A (12 + 7 * x) < A (12 + 7 * y) ∨ (A (12 + 7 * x) = A (12 + 7 * y) ∧ x < y)))
def zrank (A : Nat → Nat) (y : Nat) : Nat := zcn (fun x => zpre A x y) (A 1)
theorem zlim_le {k : Nat} (h : k ≤ 99) : zlim k ≤ 15 := by
  unfold zlim
  omega
theorem k_prec {A : Nat → Nat} (hI : zI A) {s_kind s_snow : Nat → Int32} (hk : zL s_kind (A 1) (fun i => A (12 + 7 * i))) (hs : zL s_snow (A 1) (fun i => A (14 + 7 * i))) {x y : Nat} (hx : x < A 1) (hy : y < A 1) {post : Int32 → Prop} (h1 : zpre A x y → post 1) (h0 : ¬ zpre A x y → post 0) : wpX4_precedes (nI x) (nI y) s_kind s_snow (nI (A 1)) post := by
  have hI1 := hI.1.1
  have gx := hI.2.1 x hx
  have gy := hI.2.1 y hy
  have lx := zlim_le gx.2.2.2.1
  have ly := zlim_le gy.2.2.2.1
  have ix : vp_in (nI x) 12 := vp_in_nI (by omega) (by omega)
  have iy : vp_in (nI y) 12 := vp_in_nI (by omega) (by omega)
  unfold wpX4_precedes
  refine k_hasI hI1 hx (br_f (by decide) (k_hasI hI1 hy (br_n (by decide) (k_excess hI hk hs hx (k_excess hI hk hs hy ?_)))))
  by_cases e : A (14 + 7 * x) + zlim (A (12 + 7 * y)) = A (14 + 7 * y) + zlim (A (12 + 7 * x))
  · refine br_t ((z_sub_eq (by omega) (by omega) (by omega) (by omega)).mpr e) ⟨ix, iy, ?_⟩
    rw [nI_clamp (by omega), nI_clamp (by omega), hk x hx, hk y hy]
    try dsimp only
    by_cases ek : A (12 + 7 * x) = A (12 + 7 * y)
    · refine br_t (by rw [ek]) ?_
      by_cases exy : y ≤ x
      · exact br_t (nI_le exy (by omega)) (h0 (fun q => by omega))
      · exact br_f (nI_ge (by omega) (by omega)) (h1 (Or.inr ⟨e.symm, Or.inr ⟨ek, by omega⟩⟩))
    · refine br_f (fun q => ek ((nI_eq (by omega) (by omega)).mp q)) ⟨ix, iy, ?_⟩
      by_cases ek2 : A (12 + 7 * y) ≤ A (12 + 7 * x)
      · exact br_t (nI_le ek2 (by omega)) (h0 (fun q => by omega))
      · exact br_f (nI_ge (by omega) (by omega)) (h1 (Or.inr ⟨e.symm, Or.inl (by omega)⟩))
  · refine br_f (fun q => e ((z_sub_eq (by omega) (by omega) (by omega) (by omega)).mp q)) (k_excess hI hk hs hx (k_excess hI hk hs hy ?_))
    by_cases e2 : A (14 + 7 * x) + zlim (A (12 + 7 * y)) ≤ A (14 + 7 * y) + zlim (A (12 + 7 * x))
    · exact br_t ((z_sub_cm (by omega) (by omega) (by omega) (by omega)).mpr e2) (h0 (fun q => by omega))
    · exact br_f (fun q => e2 ((z_sub_cm (by omega) (by omega) (by omega) (by omega)).mp q)) (h1 (Or.inl (by omega)))
theorem k_rank {A : Nat → Nat} (hI : zI A) {s_kind s_snow : Nat → Int32} (hk : zL s_kind (A 1) (fun i => A (12 + 7 * i))) (hs : zL s_snow (A 1) (fun i => A (14 + 7 * i))) {y : Nat} (hy : y < A 1) {post : Int32 → Prop} (h : post (nI (zrank A y))) : wpX4_rankOf (nI y) s_kind s_snow (nI (A 1)) post := by
  have hI1 := hI.1.1
  unfold wpX4_rankOf
  refine pk_loop (fun n i (v : Int32) => wpX4_rankOf_L4 (nI y) s_kind s_snow (nI (A 1)) post n v (nI i)) (fun i v => v = nI (zcn (fun x => zpre A x y) i)) (A 1) 0 0 (Nat.zero_le _) rfl ?_ ?_
  · rintro n v rfl
    exact br_t (nI_le (Nat.le_refl _) (by omega)) h
  · rintro n i v hi rfl ih
    refine br_f (nI_ge hi (by omega)) (k_prec hI hk hs hi hy (fun q => br_f (by decide) ?_) (fun q => br_t rfl ?_))
    · rw [nI_1, nI_1]
      exact ih _ (by show _ = nI (zcn _ i + (if _ then 1 else 0)); rw [if_pos q])
    · rw [nI_1]
      exact ih _ (by show _ = nI (zcn _ i + (if _ then 1 else 0)); rw [if_neg q, Nat.add_zero])
theorem k_atRank {A : Nat → Nat} (hI : zI A) {s_kind s_snow : Nat → Int32} (hk : zL s_kind (A 1) (fun i => A (12 + 7 * i))) (hs : zL s_snow (A 1) (fun i => A (14 + 7 * i))) {x1 : Int32} {post : Int32 → Prop} (h1 : ∀ y : Nat, y < A 1 → nI (zrank A y) = x1 → (∀ z : Nat, z < y → ¬ nI (zrank A z) = x1) → post (nI y)) (h0 : (∀ z : Nat, z < A 1 → ¬ nI (zrank A z) = x1) → post (-1)) : wpX4_atRank x1 s_kind s_snow (nI (A 1)) post := by
  have hI1 := hI.1.1
  unfold wpX4_atRank
  refine pk_loop (fun n i (_ : Unit) => wpX4_atRank_L2 x1 s_kind s_snow (nI (A 1)) post n (nI i)) (fun i _ => ∀ z : Nat, z < i → ¬ nI (zrank A z) = x1) (A 1) 0 () (Nat.zero_le _) (fun z hz => absurd hz (Nat.not_lt_zero z)) ?_ ?_
  · rintro n _ q
    exact br_t (nI_le (Nat.le_refl _) (by omega)) (h0 q)
  · rintro n i _ hi q ih
    refine br_f (nI_ge hi (by omega)) (k_rank hI hk hs hi ?_)
    by_cases e : nI (zrank A i) = x1
    · exact br_m e (h1 i hi e q)
    · refine br_n e ?_
      rw [nI_1]
      refine ih () (fun z hz => ?_)
      by_cases ez : z = i
      · rw [ez]; exact e
      · exact q z (by omega)
theorem m_ahead {A : Nat → Nat} (hI : zI A) {m : Nat → Int32} (hM : zM A m) {x y : Nat} (hx : x < A 1) (hy : y < A 1) {post : Int32 → Prop} (h1 : zpre A x y → post 1) (h0 : ¬ zpre A x y → post 0) : wpX7_isAhead (nI x) (nI y) m post := by
  have hI1 := hI.1.1
  have gx := hI.2.1 x hx
  have gy := hI.2.1 y hy
  have lx := zlim_le gx.2.2.2.1
  have ly := zlim_le gy.2.2.2.1
  unfold wpX7_isAhead
  refine m_of hM x 4 rfl (by omega) (m_limit hM (by omega) gx.2.2.1 (m_of hM y 4 rfl (by omega) (m_limit hM (by omega) gy.2.2.1 ?_)))
  rw [show 10 + 7 * x + 4 = 14 + 7 * x by omega, show 10 + 7 * y + 4 = 14 + 7 * y by omega]
  have ed := z_d2 (a := A (14 + 7 * x)) (b := zlim (A (12 + 7 * x))) (c := A (14 + 7 * y)) (d := zlim (A (12 + 7 * y))) (by omega) (by omega) (by omega) (by omega)
  have e0 : ((nI (A (14 + 7 * x)) - nI (zlim (A (12 + 7 * x)))) - nI (A (14 + 7 * y))) + nI (zlim (A (12 + 7 * y))) = 0 ↔ A (14 + 7 * x) + zlim (A (12 + 7 * y)) = A (14 + 7 * y) + zlim (A (12 + 7 * x)) := by
    rw [← Int32.toInt_inj, ed, Int32.toInt_zero]
    omega
  have e1 : ((nI (A (14 + 7 * x)) - nI (zlim (A (12 + 7 * x)))) - nI (A (14 + 7 * y))) + nI (zlim (A (12 + 7 * y))) ≤ 0 ↔ A (14 + 7 * x) + zlim (A (12 + 7 * y)) ≤ A (14 + 7 * y) + zlim (A (12 + 7 * x)) := by
    rw [Int32.le_iff_toInt_le, ed, Int32.toInt_zero]
    omega
  by_cases e : A (14 + 7 * x) + zlim (A (12 + 7 * y)) = A (14 + 7 * y) + zlim (A (12 + 7 * x))
  · refine br_t (e0.mpr e) (m_of hM y 2 rfl (by omega) (m_of hM x 2 rfl (by omega) ?_))
    rw [show 10 + 7 * x + 2 = 12 + 7 * x by omega, show 10 + 7 * y + 2 = 12 + 7 * y by omega]
    have k0 : nI (A (12 + 7 * y)) - nI (A (12 + 7 * x)) = 0 ↔ A (12 + 7 * y) = A (12 + 7 * x) := by
      rw [← Int32.toInt_inj, pk_sub_toInt (by omega) (by omega), Int32.toInt_zero]
      omega
    by_cases ek : A (12 + 7 * x) = A (12 + 7 * y)
    · refine br_t (k0.mpr ek.symm) ?_
      by_cases exy : y ≤ x
      · exact br_t (nI_le exy (by omega)) (h0 (fun q => by omega))
      · exact br_f (nI_ge (by omega) (by omega)) (h1 (Or.inr ⟨e.symm, Or.inr ⟨ek, by omega⟩⟩))
    · refine br_f (fun q => ek (k0.mp q).symm) ?_
      by_cases ek2 : A (12 + 7 * y) ≤ A (12 + 7 * x)
      · exact br_t ((z_sub_le (by omega) (by omega)).mpr ek2) (h0 (fun q => by omega))
      · exact br_f (fun q => ek2 ((z_sub_le (by omega) (by omega)).mp q)) (h1 (Or.inr ⟨e.symm, Or.inl (by omega)⟩))
  · refine br_f (fun q => e (e0.mp q)) ?_
    by_cases e2 : A (14 + 7 * x) + zlim (A (12 + 7 * y)) ≤ A (14 + 7 * y) + zlim (A (12 + 7 * x))
    · exact br_t (e1.mpr e2) (h0 (fun q => by omega))
    · exact br_f (fun q => e2 (e1.mp q)) (h1 (Or.inl (by omega)))
/-- the reference's search, where the class found y; where it found none -/
theorem m_urg {A : Nat → Nat} (hI : zI A) {m : Nat → Int32} (hM : zM A m) {x1 thr : Int32} {post : Int32 → Int32 → Prop} (h1 : ∀ y : Nat, y < A 1 → nI (zrank A y) = x1 → (∀ z : Nat, z < y → ¬ nI (zrank A z) = x1) → post (nI y) 0) (h0 : (∀ z : Nat, z < A 1 → ¬ nI (zrank A z) = x1) → post 0 1) : wpX7_streetByUrgency x1 thr m post := by
  have hI1 := hI.1.1
  have m1 : m (1 : Int32).toNatClampNeg = nI (A 1) := hM 1 (by omega)
  unfold wpX7_streetByUrgency
  refine pk_loop (fun n i (_ : Unit) => wpX7_streetByUrgency_L2 x1 m thr post n (nI i)) (fun i _ => ∀ z : Nat, z < i → ¬ nI (zrank A z) = x1) (A 1) 0 () (Nat.zero_le _) (fun z hz => absurd hz (Nat.not_lt_zero z)) ?_ ?_
  · rintro n _ q
    refine ⟨by unfold vp_in; decide, ?_⟩
    rw [m1]
    exact br_t (nI_le (Nat.le_refl _) (by omega)) (h0 q)
  · rintro n i _ hi q ih
    refine ⟨by unfold vp_in; decide, ?_⟩
    rw [m1]
    refine br_f (nI_ge hi (by omega)) ?_
    refine pk_loop (fun k j (v : Int32) => wpX7_streetByUrgency_L17 x1 thr m (nI i) (fun v1 => wpX7_streetByUrgency_L2 x1 m thr post n v1) post k v (nI j)) (fun j v => v = nI (zcn (fun x => zpre A x i) j)) (A 1) 0 0 (Nat.zero_le _) rfl ?_ ?_
    · rintro k v rfl
      refine ⟨by unfold vp_in; decide, ?_⟩
      rw [m1]
      refine br_t (nI_le (Nat.le_refl _) (by omega)) ?_
      by_cases e : nI (zrank A i) = x1
      · exact br_m e (h1 i hi e q)
      · refine br_n e ?_
        rw [nI_1]
        refine ih () (fun z hz => ?_)
        by_cases ez : z = i
        · rw [ez]; exact e
        · exact q z (by omega)
    · rintro k j v hj rfl ih2
      have no : ¬ zpre A j i → zcn (fun x => zpre A x i) (j + 1) = zcn (fun x => zpre A x i) j := fun w => by
        show zcn (fun x => zpre A x i) j + (if zpre A j i then 1 else 0) = _
        rw [if_neg w, Nat.add_zero]
      have z0 : ∀ a : Nat, nI a + 0 = nI a := fun a => nI_add a 0
      refine ⟨by unfold vp_in; decide, ?_⟩
      rw [m1]
      refine br_f (nI_ge hj (by omega)) ?_
      by_cases e : j = i
      · refine br_t (by rw [e]) ?_
        rw [nI_1, z0]
        exact ih2 _ (by rw [no (by subst e; omega)])
      · refine br_f (fun w => e ((nI_eq (by omega) (by omega)).mp w)) (m_ahead hI hM hj hi (fun w => br_f (by decide) ?_) (fun w => br_t rfl ?_))
        · rw [nI_1, nI_1]
          exact ih2 _ (by show _ = nI (zcn _ j + (if _ then 1 else 0)); rw [if_pos w])
        · rw [nI_1, z0]
          exact ih2 _ (by rw [no w])

