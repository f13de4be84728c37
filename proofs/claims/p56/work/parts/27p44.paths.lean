/-! the class: its two ways to measure -/
theorem k_nb0 : vp_nar .boolean 0 = 0 := rfl
theorem k_nb1 : vp_nar .boolean 1 = 1 := rfl
/-- what is settled -/
def zBo (f : Nat → Int32) (b : Nat → Bool) : Prop := ∀ v : Nat, v < 8 → f v = if b v = true then 1 else 0
theorem k_near {reach settled : Nat → Int32} {d : Nat → Nat} {b : Nat → Bool} (hr : zL reach 8 (fun v => zcd (d v))) (hs : zBo settled b) (hd : ∀ v : Nat, v < 8 → d v ≤ 9999) {post : Int32 → Prop}
    (h1 : ∀ j : Nat, j < 8 → b j = false → d j < 9999 → (∀ i : Nat, i < 8 → b i = false → d j ≤ d i) → post (nI j)) (h0 : (∀ i : Nat, i < 8 → b i = false → d i = 9999) → post (-1)) : wpX1_nearestOpen reach settled post := by
  unfold wpX1_nearestOpen
  refine pk_loop (fun k i (v : Int32 × Int32) => wpX1_nearestOpen_L7 reach settled post k v.1 v.2 (nI i)) (fun k v => (v.1 = -1 ∧ v.2 = nI 1000000 ∧ ∀ i : Nat, i < k → b i = false → d i = 9999) ∨ ∃ j : Nat, j < k ∧ v.1 = nI j ∧ v.2 = nI (d j) ∧ b j = false ∧ d j < 9999 ∧ ∀ i : Nat, i < k → b i = false → d j ≤ d i) 8 0 ((-1 : Int32), (1000000 : Int32)) (Nat.zero_le _) (Or.inl ⟨rfl, rfl, fun i hi => absurd hi (Nat.not_lt_zero i)⟩) ?_ ?_
  · rintro k ⟨x1, x2⟩ h
    refine br_t (nI_le (b := 8) (Nat.le_refl _) (by omega)) ?_
    rcases h with ⟨e1, e2, h⟩ | ⟨j, hj, e1, e2, hb, hf, h⟩
    · dsimp only at e1 ⊢
      rw [e1]
      exact h0 h
    · dsimp only at e1 ⊢
      rw [e1]
      exact h1 j hj hb hf h
  · rintro n k ⟨x1, x2⟩ hk h ih
    dsimp only at h
    show wpX1_nearestOpen_L7 reach settled post (n + 1) x1 x2 (nI k)
    refine br_f (nI_ge (b := 8) hk (by omega)) ⟨vp_in_nI hk (by omega), ?_⟩
    rw [nI_clamp (by omega), hs k hk, hr k hk, nI_1]
    try dsimp only
    have hdk := hd k hk
    cases eb : b k with
    | true =>
      rw [if_pos rfl]
      refine br_n (by decide) (ih (x1, x2) ?_)
      rcases h with ⟨e1, e2, h⟩ | ⟨j, hj, e1, e2, hb, hf, h⟩
      · refine Or.inl ⟨e1, e2, fun i hi hbi => ?_⟩
        by_cases e : i = k
        · rw [e, eb] at hbi; cases hbi
        · exact h i (by omega) hbi
      · refine Or.inr ⟨j, by omega, e1, e2, hb, hf, fun i hi hbi => ?_⟩
        by_cases e : i = k
        · rw [e, eb] at hbi; cases hbi
        · exact h i (by omega) hbi
    | false =>
      rw [if_neg (by decide)]
      refine br_m rfl ⟨vp_in_nI hk (by omega), ?_⟩
      rcases h with ⟨e1, e2, h⟩ | ⟨j, hj, e1, e2, hb, hf, h⟩
      · subst e1; subst e2
        by_cases e : d k = 9999
        · have ez : zcd (d k) = 1000000 := by rw [e]; rfl
          rw [ez]
          refine br_t (nI_le (Nat.le_refl _) (by omega)) (ih (-1, nI 1000000) (Or.inl ⟨rfl, rfl, fun i hi hbi => ?_⟩))
          by_cases e9 : i = k
          · rw [e9]; exact e
          · exact h i (by omega) hbi
        · have ez : zcd (d k) = d k := if_pos (by omega)
          rw [ez]
          refine br_f (nI_ge (by omega) (by omega)) ⟨vp_in_nI hk (by omega), ih (nI k, nI (d k)) (Or.inr ⟨k, by omega, rfl, rfl, eb, by omega, fun i hi hbi => ?_⟩)⟩
          by_cases e9 : i = k
          · rw [e9]; exact Nat.le_refl _
          · rw [h i (by omega) hbi]; omega
      · subst e1; subst e2
        by_cases e : d j ≤ d k
        · have ez : d k ≤ zcd (d k) := by unfold zcd; split <;> omega
          refine br_t (nI_le (by omega) (by have := @zcd_le (d k); omega)) (ih (nI j, nI (d j)) (Or.inr ⟨j, by omega, rfl, rfl, hb, hf, fun i hi hbi => ?_⟩))
          by_cases e9 : i = k
          · rw [e9]; exact e
          · exact h i (by omega) hbi
        · have ez : zcd (d k) = d k := if_pos (by omega)
          rw [ez]
          refine br_f (nI_ge (by omega) (by omega)) ⟨vp_in_nI hk (by omega), ih (nI k, nI (d k)) (Or.inr ⟨k, by omega, rfl, rfl, eb, by omega, fun i hi hbi => ?_⟩)⟩
          by_cases e9 : i = k
          · rw [e9]; exact Nat.le_refl _
          · have := h i (by omega) hbi
            omega
/-- from the nearest along all streets -/
theorem k_relax {A : Nat → Nat} (hI : zI A) {s_lower s_higher s_size : Nat → Int32} (hl : zL s_lower (A 1) (fun i => A (10 + 7 * i))) (hh : zL s_higher (A 1) (fun i => A (11 + 7 * i))) (hz : zL s_size (A 1) (fun i => A (13 + 7 * i)))
    {u j : Nat} {D d : Nat → Nat} (hD : zSP (zG A) u D) (hj : j < 8) (hjD : d j = D j) (hjf : D j < 9999) (hd : ∀ v : Nat, v < 8 → D v ≤ d v ∧ d v ≤ 9999) {reach settled : Nat → Int32} (hr : zL reach 8 (fun v => zcd (d v))) {x3 : Int32} {k40 : Int32 → (Nat → Int32) → (Nat → Int32) → Prop} {post : (Nat → Int32) → (Nat → Int32) → Prop}
    (h : ∀ (f : Nat → Int32) (d' : Nat → Nat), zL f 8 (fun v => zcd (d' v)) → (∀ v : Nat, v < 8 → D v ≤ d' v ∧ d' v ≤ d v) → (∀ y l, zG A j y l → d' y ≤ D j + l) → k40 (x3 + 1) f settled) :
    ∃ n, wpX1_measureFrom_L72 s_lower s_higher s_size (nI (A 1)) x3 (nI j) settled k40 post n 0 reach := by
  have hI1 := hI.1.1
  have hj63 := hD.2.2.2.1 j hj hjf
  refine pk_loop (fun n i f => wpX1_measureFrom_L72 s_lower s_higher s_size (nI (A 1)) x3 (nI j) settled k40 post n (nI i) f) (fun i f => ∃ d', zL f 8 (fun v => zcd (d' v)) ∧ (∀ v : Nat, v < 8 → D v ≤ d' v ∧ d' v ≤ d v) ∧ ∀ i' : Nat, i' < i → ∀ y, ((A (10 + 7 * i') = j ∧ A (11 + 7 * i') = y) ∨ (A (10 + 7 * i') = y ∧ A (11 + 7 * i') = j)) → d' y ≤ D j + A (13 + 7 * i')) (A 1) 0 reach (Nat.zero_le _) ⟨d, hr, fun v hv => ⟨(hd v hv).1, Nat.le_refl _⟩, fun i hi => absurd hi (Nat.not_lt_zero i)⟩ ?_ ?_
  · rintro n f ⟨d', h1, h2, h3⟩
    refine br_t (nI_le (Nat.le_refl _) (by omega)) (h f d' h1 h2 ?_)
    rintro y l ⟨i, hi, rfl, hxy⟩
    exact h3 i hi y hxy
  · rintro n i f hi ⟨d', h1, h2, h3⟩ ih
    have hs := hI.2.1 i hi
    show wpX1_measureFrom_L72 s_lower s_higher s_size (nI (A 1)) x3 (nI j) settled k40 post (n + 1) (nI i) f
    refine br_f (nI_ge hi (by omega)) (br_f (nI_ge (b := 12) (by omega) (by omega)) (k_other hI hl hh hi hj (fun y hy hyj hxy => ?_) (fun n1 n2 => ?_)))
    · refine k_isjI hy (br_f (by decide) ⟨vp_in_nI hy (by omega), vp_in_nI hj (by omega), vp_in_nI (by omega) (by omega), vp_in_nI hy (by omega), ?_⟩)
      rw [nI_clamp (by omega), nI_clamp (by omega), nI_clamp (by omega), zg h1 y hy, zg h1 j hj, zg hz i hi, nI_1]
      try dsimp only
      have ej : d' j = D j := by have := h2 j hj; omega
      try dsimp only
      rw [ej, show zcd (D j) = D j from if_pos hjf, nI_add]
      have hdy := h2 y hy
      have hdy2 := hd y hy
      have hjy : D y ≤ D j + A (13 + 7 * i) := (hD.2.1 j y _ ⟨i, hi, rfl, hxy⟩ hjf).2
      have ev : (if nI (D j + A (13 + 7 * i)) < nI (zcd (d' y)) then nI (D j + A (13 + 7 * i)) else nI (zcd (d' y))) = nI (zcd (if D j + A (13 + 7 * i) < d' y then D j + A (13 + 7 * i) else d' y)) := by
        have hz9 := @zcd_le (d' y)
        by_cases e : D j + A (13 + 7 * i) < d' y
        · rw [if_pos e, if_pos, show zcd (D j + A (13 + 7 * i)) = D j + A (13 + 7 * i) from if_pos (by omega)]
          exact nI_lt (by unfold zcd; split <;> omega) (by omega)
        · rw [if_neg e, if_neg]
          exact nI_nlt (by rw [show zcd (d' y) = d' y from if_pos (by omega)]; omega) (by omega)
      rw [ev]
      refine ih _ ⟨zu d' y (if D j + A (13 + 7 * i) < d' y then D j + A (13 + 7 * i) else d' y), ?_, ?_, ?_⟩
      · intro v hv
        unfold upd zu
        try dsimp only
        by_cases e : v = y
        · rw [if_pos e, if_pos e]
        · rw [if_neg e, if_neg e]
          exact h1 v hv
      · intro v hv
        have := h2 v hv
        unfold zu
        by_cases e : v = y
        · subst e
          rw [if_pos rfl]
          split <;> omega
        · rw [if_neg e]
          exact this
      · intro i' hi' y' hxy'
        by_cases e : y' = y
        · subst e
          rw [zu_s]
          by_cases e2 : i' = i
          · subst e2
            split <;> omega
          · have := h3 i' (by omega) y' hxy'
            split <;> omega
        · rw [zu_n e]
          refine h3 i' ?_ y' hxy'
          by_cases e2 : i' = i
          · subst e2
            exact absurd (by rcases hxy with ⟨a, b⟩ | ⟨a, b⟩ <;> rcases hxy' with ⟨a', b'⟩ | ⟨a', b'⟩ <;> omega) e
          · omega
    · refine k_isj (fun a ha e => ?_) (fun _ => ?_)
      · exact absurd (show (-1 : Int32).toInt = (nI a).toInt by rw [← e]) (by rw [nI_toInt (by omega), show (-1 : Int32).toInt = -1 from rfl]; omega)
      · refine br_t rfl ?_
        rw [nI_1]
        refine ih f ⟨d', h1, h2, fun i' hi' y hxy => ?_⟩
        by_cases e2 : i' = i
        · subst e2
          exact absurd hxy (by omega)
        · exact h3 i' (by omega) y hxy
theorem k_meas {A : Nat → Nat} (hI : zI A) {s_lower s_higher s_size : Nat → Int32} (hl : zL s_lower (A 1) (fun i => A (10 + 7 * i))) (hh : zL s_higher (A 1) (fun i => A (11 + 7 * i))) (hz : zL s_size (A 1) (fun i => A (13 + 7 * i)))
    {u : Nat} (hu : u < 8) {w_reach w_settled : Nat → Int32} {post : (Nat → Int32) → (Nat → Int32) → Prop} (h : ∀ f g, zL f 8 (fun v => zcd (zD A u v)) → post f g) : wpX1_measureFrom (nI u) w_reach w_settled s_lower s_higher s_size (nI (A 1)) post := by
  have hE := zG_E hI
  have hD := zD_sp hI u
  unfold wpX1_measureFrom
  refine pk_loop (fun n i (v : (Nat → Int32) × (Nat → Int32)) => wpX1_measureFrom_L2 (nI u) s_lower s_higher s_size (nI (A 1)) post n (nI i) v.1 v.2) (fun i v => ∀ k : Nat, k < i → v.1 k = nI (if k = u then 0 else 1000000) ∧ v.2 k = 0) 8 0 (w_reach, w_settled) (Nat.zero_le _) (fun k hk => absurd hk (Nat.not_lt_zero k)) ?_ ?_
  · rintro n ⟨f, g⟩ h0
    dsimp only at h0
    show wpX1_measureFrom_L2 (nI u) s_lower s_higher s_size (nI (A 1)) post (n + 1) (nI 8) f g
    refine br_t (nI_le (b := 8) (Nat.le_refl _) (by omega)) ?_
    refine pk_loop (fun n i (v : (Nat → Int32) × (Nat → Int32)) => wpX1_measureFrom_L40 s_lower s_higher s_size (nI (A 1)) post n (nI i) v.1 v.2) (fun r v => ∃ d b, zL v.1 8 (fun v => zcd (d v)) ∧ zBo v.2 b ∧ zDj (zG A) u (zD A u) d b ∧ r ≤ zc b 8) 8 0 (f, g) (Nat.zero_le _) ?_ ?_ ?_
    · refine ⟨fun v => if v = u then 0 else 9999, fun _ => false, fun v hv => ?_, fun v hv => ?_, ⟨if_pos rfl, fun v hv => ?_, fun v _ hb => Bool.noConfusion hb, fun x y l _ hb => Bool.noConfusion hb⟩, Nat.zero_le _⟩
      · show f v = _
        rw [(h0 v hv).1]
        try dsimp only
        by_cases e : v = u
        · rw [if_pos e, if_pos e]; rfl
        · rw [if_neg e, if_neg e]; rfl
      · exact (h0 v hv).2
      · dsimp only
        by_cases e : v = u
        · rw [if_pos e, e, hD.1]; omega
        · rw [if_neg e]
          exact ⟨hD.2.2.2.2 v, Nat.le_refl _⟩
    · rintro n ⟨f, g⟩ ⟨d, b, h1, h2, h3, h4⟩
      refine br_t (nI_le (b := 8) (Nat.le_refl _) (by omega)) (h f g (fun v hv => ?_))
      dsimp only at h1
      rw [h1 v hv]
      try dsimp only
      rw [(h3.2.2.1 v hv (zc_all h4 hv)).1]
    · rintro n r ⟨f, g⟩ hr ⟨d, b, h1, h2, h3, h4⟩ ih
      dsimp only at h1 h2
      show wpX1_measureFrom_L40 s_lower s_higher s_size (nI (A 1)) post (n + 1) (nI r) f g
      refine br_f (nI_ge (b := 8) hr (by omega)) (k_near h1 h2 (fun v hv => (h3.2.1 v hv).2) (fun j hj hbj hfj hmin => ?_) (fun hmax => ?_))
      · refine k_isjI hj (br_n (by decide) ⟨vp_in_nI hj (by omega), ?_⟩)
        have hjD := zDj_near hE hD h3 hj hbj hfj hmin
        rw [nI_clamp (by omega), k_nb1]
        refine k_relax hI hl hh hz hD hj hjD (by omega) h3.2.1 h1 (fun f2 d' g1 g2 g3 => ?_)
        rw [nI_1]
        refine ih (f2, upd g j 1) ⟨d', fun v => if v = j then true else b v, g1, fun v hv => ?_, ⟨?_, fun v hv => ?_, fun v hv hb => ?_, fun x y l he hb => ?_⟩, ?_⟩
        · show upd g j 1 v = _
          by_cases e : v = j
          · rw [e, pk_us]
            exact (if_pos (if_pos rfl)).symm
          · rw [pk_un e, h2 v hv]
            exact congrArg (fun x : Bool => if x = true then (1 : Int32) else 0) (show b v = (if v = j then true else b v) from (if_neg e).symm)
        · have a := g2 u hu
          have c := h3.1
          omega
        · have a := g2 v hv
          have c := h3.2.1 v hv
          omega
        · dsimp only at hb
          have a := g2 v hv
          by_cases e : v = j
          · subst e
            omega
          · rw [if_neg e] at hb
            have c := h3.2.2.1 v hv hb
            omega
        · dsimp only at hb
          by_cases e : x = j
          · subst e
            exact g3 y l he
          · rw [if_neg e] at hb
            have a := g2 y (hE.1 x y l he).2.1
            have c := h3.2.2.2 x y l he hb
            omega
        · have := zc_lt (p := b) (q := fun v => if v = j then true else b v) (fun k hk => if e : k = j then if_pos e else (if_neg e).trans hk) hbj (if_pos rfl) 8 hj
          omega
      · refine k_isj (fun a ha e => ?_) (fun _ => ?_)
        · exact absurd (show (-1 : Int32).toInt = (nI a).toInt by rw [← e]) (by rw [nI_toInt (by omega), show (-1 : Int32).toInt = -1 from rfl]; omega)
        · refine br_m rfl (h f g (fun v hv => ?_))
          rw [h1 v hv]
          try dsimp only
          rw [zDj_done hE hD h3 hmax v hv]
  · rintro n i ⟨f, g⟩ hi h0 ih
    dsimp only at h0
    show wpX1_measureFrom_L2 (nI u) s_lower s_higher s_size (nI (A 1)) post (n + 1) (nI i) f g
    refine br_f (nI_ge (b := 8) hi (by omega)) ?_
    rw [nI_clamp (by omega), nI_1, k_nb0]
    have hs : ∀ x, (∀ k : Nat, k < i + 1 → upd f i x k = nI (if k = u then 0 else 1000000) ∧ upd g i 0 k = 0) ↔ x = nI (if i = u then 0 else 1000000) := by
      intro x
      constructor
      · intro q
        have := (q i (by omega)).1
        rwa [pk_us] at this
      · rintro rfl k hk
        by_cases e : k = i
        · subst e
          exact ⟨pk_us, pk_us⟩
        · rw [pk_un e, pk_un e]
          exact h0 k (by omega)
    by_cases e : i = u
    · refine br_m (by rw [e]) ⟨vp_in_nI hi (by omega), vp_in_nI hi (by omega), ih (upd f i 0, upd g i 0) ((hs 0).mpr ?_)⟩
      rw [if_pos e]; rfl
    · refine br_n (fun q => e ((nI_eq (by omega) (by omega)).mp q)) ⟨vp_in_nI hi (by omega), vp_in_nI hi (by omega), ih (upd f i 1000000, upd g i 0) ((hs 1000000).mpr ?_)⟩
      rw [if_neg e]; rfl
theorem k_reach {f : Nat → Int32} {a : Nat → Nat} (h : zL f 8 a) {v : Nat} (hv : v < 8) {post : Int32 → Prop} (h1 : post (nI (a v))) : wpX1_reachOf (nI v) f post := by
  unfold wpX1_reachOf
  refine k_isjI hv (br_f (by decide) ⟨vp_in_nI hv (by omega), ?_⟩)
  rw [nI_clamp (by omega), h v hv]
  try dsimp only
  exact h1
/-! the table of all pairs -/
def zTb (f : Nat → Int32) (c : Nat → Nat → Nat) : Prop := ∀ i : Nat, i < 8 → ∀ j : Nat, j < 8 → f (i * 8 + j) = nI (c i j)
def zcu (c : Nat → Nat → Nat) (i j v : Nat) : Nat → Nat → Nat := fun a b => if a = i ∧ b = j then v else c a b
theorem zTb_u {f : Nat → Int32} {c : Nat → Nat → Nat} (h : zTb f c) {i j : Nat} (hi : i < 8) (hj : j < 8) (v : Nat) : zTb (upd f (i * 8 + j) (nI v)) (zcu c i j v) := by
  intro a ha b hb
  unfold upd zcu
  by_cases e : a = i ∧ b = j
  · rw [if_pos e, if_pos (by rw [e.1, e.2])]
  · rw [if_neg e, if_neg (by omega)]
    exact h a ha b hb
theorem k_betw {f : Nat → Int32} {c : Nat → Nat → Nat} (h : zTb f c) {i j : Nat} (hi : i < 8) (hj : j < 8) {post : Int32 → Prop} (h1 : post (nI (c i j))) : wpX1_between (nI i) (nI j) f post := by
  unfold wpX1_between
  refine k_isjI hi (br_f (by decide) (k_isjI hj (br_f (by decide) ?_)))
  rw [show nI i * 8 + nI j = nI (i * 8 + j) by rw [show (8 : Int32) = nI 8 from rfl, pk_mul, nI_add], nI_clamp (by omega), h i hi j hj]
  exact ⟨vp_in_nI (by omega) (by omega), h1⟩
/-- a table between the true distances and what is found so far -/
def zFW (A : Nat → Nat) (k : Nat) (c : Nat → Nat → Nat) : Prop :=
  (∀ i : Nat, i < 8 → ∀ j : Nat, j < 8 → c i j ≤ 1000000 ∧ (c i j < 1000000 → zD A i j < 9999 ∧ zD A i j ≤ c i j)) ∧ ∀ i : Nat, i < 8 → ∀ j : Nat, j < 8 → ∀ w, zP (zG A) k i j w → c i j ≤ w
theorem k_by {A : Nat → Nat} (hI : zI A) {k : Nat} (hk : k < 8) {f : Nat → Int32} {c : Nat → Nat → Nat} (hf : zTb f c) (hc : zFW A k c) {post : (Nat → Int32) → Prop} (h : ∀ f c, zTb f c → zFW A (k + 1) c → post f) : wpX1_improveBy (nI k) f post := by
  have hE := zG_E hI
  unfold wpX1_improveBy
  refine pk_loop (fun n i f => wpX1_improveBy_L2 (nI k) post n (nI i) f) (fun i f => ∃ c, zTb f c ∧ zFW A k c ∧ ∀ a : Nat, a < i → ∀ b : Nat, b < 8 → ∀ w1 w2, zP (zG A) k a k w1 → zP (zG A) k k b w2 → c a b ≤ w1 + w2) 8 0 f (Nat.zero_le _) ⟨c, hf, hc, fun a ha => absurd ha (Nat.not_lt_zero a)⟩ ?_ ?_
  · rintro n f ⟨c, h1, h2, h3⟩
    refine br_t (nI_le (b := 8) (Nat.le_refl _) (by omega)) (h f c h1 ⟨h2.1, fun i hi j hj w hw => ?_⟩)
    rcases hw with hw | ⟨w1, w2, hw1, hw2, rfl⟩
    · exact h2.2 i hi j hj w hw
    · exact h3 i hi j hj w1 w2 hw1 hw2
  · rintro n i f hi ⟨c, h1, h2, h3⟩ ih
    refine br_f (nI_ge (b := 8) hi (by omega)) ?_
    refine pk_loop (fun n j f => wpX1_improveBy_L10 (nI k) (nI i) (fun v1 v2 => wpX1_improveBy_L2 (nI k) post _ v1 v2) post n (nI j) f) (fun j f => ∃ c, zTb f c ∧ zFW A k c ∧ (∀ a : Nat, a < i → ∀ b : Nat, b < 8 → ∀ w1 w2, zP (zG A) k a k w1 → zP (zG A) k k b w2 → c a b ≤ w1 + w2) ∧ ∀ b : Nat, b < j → ∀ w1 w2, zP (zG A) k i k w1 → zP (zG A) k k b w2 → c i b ≤ w1 + w2) 8 0 f (Nat.zero_le _) ⟨c, h1, h2, h3, fun b hb => absurd hb (Nat.not_lt_zero b)⟩ ?_ ?_
    · rintro m f ⟨c, h1, h2, h3, h4⟩
      refine br_t (nI_le (b := 8) (Nat.le_refl _) (by omega)) ?_
      rw [nI_1]
      refine ih f ⟨c, h1, h2, fun a ha b hb => ?_⟩
      by_cases e : a = i
      · subst e
        exact h4 b hb
      · exact h3 a (by omega) b hb
    · rintro m j f hj ⟨c, h1, h2, h3, h4⟩ ih2
      refine br_f (nI_ge (b := 8) hj (by omega)) (k_betw h1 hi hk (k_betw h1 hk hj (k_betw h1 hi hj ?_)))
      rw [nI_add, nI_1]
      have b1 := h2.1 i hi k hk
      have b2 := h2.1 k hk j hj
      have b3 := h2.1 i hi j hj
      by_cases e : c i j ≤ c i k + c k j
      · refine br_t (nI_le e (by omega)) (ih2 f ⟨c, h1, h2, h3, fun b hb w1 w2 hw1 hw2 => ?_⟩)
        by_cases eb : b = j
        · subst eb
          have p1 := h2.2 i hi k hk w1 hw1
          have p2 := h2.2 k hk b hj w2 hw2
          omega
        · exact h4 b (by omega) w1 w2 hw1 hw2
      · refine br_f (nI_ge (by omega) (by omega)) ?_
        rw [show nI i * 8 + nI j = nI (i * 8 + j) by rw [show (8 : Int32) = nI 8 from rfl, pk_mul, nI_add], nI_clamp (by omega)]
        refine ⟨vp_in_nI (by omega) (by omega), ih2 _ ⟨zcu c i j (c i k + c k j), zTb_u h1 hi hj _, ⟨fun a ha b hb => ?_, fun a ha b hb w hw => ?_⟩, fun a ha b hb w1 w2 hw1 hw2 => ?_, fun b hb w1 w2 hw1 hw2 => ?_⟩⟩
        · unfold zcu
          by_cases e2 : a = i ∧ b = j
          · rw [if_pos e2, e2.1, e2.2]
            refine ⟨by omega, fun _ => ?_⟩
            have q1 := b1.2 (by omega)
            have q2 := b2.2 (by omega)
            have q3 := zSP_tri (e := zG A) (D := zD A) (fun u _ => zD_sp hI u) hE hi hk q1.1 _ j hj (Nat.le_refl _) q2.1
            omega
          · rw [if_neg e2]
            exact h2.1 a ha b hb
        · unfold zcu
          by_cases e2 : a = i ∧ b = j
          · rw [if_pos e2]
            have := h2.2 a ha b hb w hw
            rw [e2.1, e2.2] at this
            omega
          · rw [if_neg e2]
            exact h2.2 a ha b hb w hw
        · unfold zcu
          rw [if_neg (by omega)]
          exact h3 a ha b hb w1 w2 hw1 hw2
        · unfold zcu
          by_cases eb : b = j
          · subst eb
            rw [if_pos ⟨rfl, rfl⟩]
            have p1 := h2.2 i hi k hk w1 hw1
            have p2 := h2.2 k hk b hj w2 hw2
            omega
          · rw [if_neg (by omega)]
            exact h4 b (by omega) w1 w2 hw1 hw2
theorem k_all {A : Nat → Nat} (hI : zI A) {s_lower s_higher s_size : Nat → Int32} (hl : zL s_lower (A 1) (fun i => A (10 + 7 * i))) (hh : zL s_higher (A 1) (fun i => A (11 + 7 * i))) (hz : zL s_size (A 1) (fun i => A (13 + 7 * i)))
    {w_table : Nat → Int32} {post : (Nat → Int32) → Prop} (h : ∀ f, zTb f (fun i j => zcd (zD A i j)) → post f) : wpX1_improveAll w_table s_lower s_higher s_size (nI (A 1)) post := by
  have hE := zG_E hI
  have hI1 := hI.1.1
  unfold wpX1_improveAll
  refine pk_loop (fun n i f => wpX1_improveAll_L2 s_lower s_higher s_size (nI (A 1)) post n (nI i) f) (fun i f => ∀ a : Nat, a < i → ∀ b : Nat, b < 8 → f (a * 8 + b) = nI (if a = b then 0 else 1000000)) 8 0 w_table (Nat.zero_le _) (fun a ha => absurd ha (Nat.not_lt_zero a)) ?_ ?_
  · intro n f h0
    refine br_t (nI_le (b := 8) (Nat.le_refl _) (by omega)) ?_
    -- along the streets
    refine pk_loop (fun n i f => wpX1_improveAll_L52 s_lower s_higher s_size (nI (A 1)) post n (nI i) f) (fun i f => ∃ c, zTb f c ∧ ∀ a : Nat, a < 8 → ∀ b : Nat, b < 8 → (a = b → c a b = 0) ∧ (a ≠ b → (∃ i' : Nat, i' < i ∧ ((A (10 + 7 * i') = a ∧ A (11 + 7 * i') = b) ∨ (A (10 + 7 * i') = b ∧ A (11 + 7 * i') = a)) ∧ c a b = A (13 + 7 * i')) ∨ ((∀ i' : Nat, i' < i → ¬ ((A (10 + 7 * i') = a ∧ A (11 + 7 * i') = b) ∨ (A (10 + 7 * i') = b ∧ A (11 + 7 * i') = a))) ∧ c a b = 1000000))) (A 1) 0 f (Nat.zero_le _) ?_ ?_ ?_
    · refine ⟨fun a b => if a = b then 0 else 1000000, fun a ha b hb => h0 a ha b hb, fun a _ b _ => ⟨fun e => if_pos e, fun e => Or.inr ⟨fun i hi => absurd hi (Nat.not_lt_zero i), if_neg e⟩⟩⟩
    · rintro n f ⟨c, h1, h2⟩
      refine br_t (nI_le (Nat.le_refl _) (by omega)) ?_
      refine pk_loop (fun n i f => wpX1_improveAll_L96 s_lower s_higher s_size (nI (A 1)) post n (nI i) f) (fun k f => ∃ c, zTb f c ∧ zFW A k c) 8 0 f (Nat.zero_le _) ⟨c, h1, ?_, ?_⟩ ?_ ?_
      · intro a ha b hb
        by_cases e : a = b
        · subst e
          rw [(h2 a ha a hb).1 rfl, (zD_sp hI a).1]
          omega
        · rcases (h2 a ha b hb).2 e with ⟨i, hi, hxy, ec⟩ | ⟨hn, ec⟩
          · have hs := hI.2.1 i hi
            have := (zD_sp hI a).2.1 a b _ ⟨i, hi, rfl, hxy⟩ (by rw [(zD_sp hI a).1]; omega)
            rw [(zD_sp hI a).1] at this
            rw [ec]
            omega
          · rw [ec]
            omega
      · intro a ha b hb w hw
        rcases hw with ⟨e, rfl⟩ | ⟨i, hi, rfl, hxy⟩
        · rw [(h2 a ha b hb).1 e]
          exact Nat.le_refl _
        · have hne : a ≠ b := zG_ne hI ⟨i, hi, rfl, hxy⟩
          rcases (h2 a ha b hb).2 hne with ⟨i', hi', hxy', ec⟩ | ⟨hn, ec⟩
          · rw [ec, zG_one hI (l := A (13 + 7 * i')) (l' := A (13 + 7 * i)) ⟨i', hi', rfl, hxy'⟩ ⟨i, hi, rfl, hxy⟩]
            exact Nat.le_refl _
          · exact absurd hxy (hn i hi)
      · rintro n f ⟨c, h1, h2⟩
        refine br_t (nI_le (b := 8) (Nat.le_refl _) (by omega)) (h f (fun i hi j hj => ?_))
        rw [h1 i hi j hj]
        dsimp only
        have q1 := h2.1 i hi j hj
        by_cases ef : zD A i j < 9999
        · obtain ⟨w, hw, pw⟩ := zP_all hE (zD_sp hI i) _ j hj (Nat.le_refl _) ef
          have q2 := h2.2 i hi j hj w pw
          have q3 := q1.2 (by omega)
          rw [show zcd (zD A i j) = zD A i j from if_pos ef, show c i j = zD A i j by omega]
        · rw [show zcd (zD A i j) = 1000000 from if_neg ef]
          by_cases e : c i j < 1000000
          · exact absurd (q1.2 e).1 ef
          · rw [show c i j = 1000000 by omega]
      · rintro n k f hk ⟨c, h1, h2⟩ ih
        refine br_f (nI_ge (b := 8) hk (by omega)) (k_by hI hk h1 h2 (fun f c g1 g2 => ?_))
        rw [nI_1]
        exact ih f ⟨c, g1, g2⟩
    · rintro n i f hi ⟨c, h1, h2⟩ ih
      have hs := hI.2.1 i hi
      refine br_f (nI_ge hi (by omega)) (br_f (nI_ge (b := 12) (by omega) (by omega)) ⟨vp_in_nI (by omega) (by omega), vp_in_nI (by omega) (by omega), vp_in_nI (by omega) (by omega), ?_⟩)
      rw [nI_clamp (by omega), hl i hi, hh i hi, hz i hi, nI_1]
      try dsimp only
      unfold wpX1_link
      refine k_isjI (by omega) (br_f (by decide) (k_isjI (by omega) (br_f (by decide) ?_)))
      rw [show nI (A (10 + 7 * i)) * 8 + nI (A (11 + 7 * i)) = nI (A (10 + 7 * i) * 8 + A (11 + 7 * i)) by rw [show (8 : Int32) = nI 8 from rfl, pk_mul, nI_add], show nI (A (11 + 7 * i)) * 8 + nI (A (10 + 7 * i)) = nI (A (11 + 7 * i) * 8 + A (10 + 7 * i)) by rw [show (8 : Int32) = nI 8 from rfl, pk_mul, nI_add], nI_clamp (by omega), nI_clamp (by omega)]
      refine ⟨vp_in_nI (by omega) (by omega), vp_in_nI (by omega) (by omega), ih _ ⟨zcu (zcu c (A (10 + 7 * i)) (A (11 + 7 * i)) (A (13 + 7 * i))) (A (11 + 7 * i)) (A (10 + 7 * i)) (A (13 + 7 * i)), zTb_u (zTb_u h1 (by omega) (by omega) _) (by omega) (by omega) _, fun a ha b hb => ⟨fun e => ?_, fun e => ?_⟩⟩⟩
      · unfold zcu
        rw [if_neg (by omega), if_neg (by omega)]
        exact (h2 a ha b hb).1 e
      · by_cases ej : (A (10 + 7 * i) = a ∧ A (11 + 7 * i) = b) ∨ (A (10 + 7 * i) = b ∧ A (11 + 7 * i) = a)
        · refine Or.inl ⟨i, by omega, ej, ?_⟩
          unfold zcu
          rcases ej with ⟨e1, e2⟩ | ⟨e1, e2⟩
          · rw [if_neg (by omega), if_pos ⟨e1.symm, e2.symm⟩]
          · rw [if_pos ⟨e2.symm, e1.symm⟩]
        · have ec : zcu (zcu c (A (10 + 7 * i)) (A (11 + 7 * i)) (A (13 + 7 * i))) (A (11 + 7 * i)) (A (10 + 7 * i)) (A (13 + 7 * i)) a b = c a b := by
            unfold zcu
            rw [if_neg (by omega), if_neg (by omega)]
          rw [ec]
          rcases (h2 a ha b hb).2 e with ⟨i', hi', hxy, ec⟩ | ⟨hn, ec⟩
          · exact Or.inl ⟨i', by omega, hxy, ec⟩
          · refine Or.inr ⟨fun i' hi' => ?_, ec⟩
            by_cases e9 : i' = i
            · rw [e9]
              exact ej
            · exact hn i' (by omega)
  · intro n i f hi h0 ih
    refine br_f (nI_ge (b := 8) hi (by omega)) ?_
    refine pk_loop (fun n j f => wpX1_improveAll_L10 s_lower s_higher s_size (nI (A 1)) (nI i) (fun v1 v2 => wpX1_improveAll_L2 s_lower s_higher s_size (nI (A 1)) post _ v1 v2) post n (nI j) f) (fun j f => (∀ a : Nat, a < i → ∀ b : Nat, b < 8 → f (a * 8 + b) = nI (if a = b then 0 else 1000000)) ∧ ∀ b : Nat, b < j → f (i * 8 + b) = nI (if i = b then 0 else 1000000)) 8 0 f (Nat.zero_le _) ⟨h0, fun b hb => absurd hb (Nat.not_lt_zero b)⟩ ?_ ?_
    · rintro m f ⟨h1, h2⟩
      refine br_t (nI_le (b := 8) (Nat.le_refl _) (by omega)) ?_
      rw [nI_1]
      refine ih f (fun a ha b hb => ?_)
      by_cases e : a = i
      · subst e
        exact h2 b hb
      · exact h1 a (by omega) b hb
    · rintro m j f hj ⟨h1, h2⟩ ih2
      refine br_f (nI_ge (b := 8) hj (by omega)) ?_
      rw [show nI i * 8 + nI j = nI (i * 8 + j) by rw [show (8 : Int32) = nI 8 from rfl, pk_mul, nI_add], nI_clamp (by omega), nI_1]
      have hq : ∀ x, x = nI (if i = j then 0 else 1000000) → (∀ a : Nat, a < i → ∀ b : Nat, b < 8 → upd f (i * 8 + j) x (a * 8 + b) = nI (if a = b then 0 else 1000000)) ∧ ∀ b : Nat, b < j + 1 → upd f (i * 8 + j) x (i * 8 + b) = nI (if i = b then 0 else 1000000) := by
        rintro x rfl
        refine ⟨fun a ha b hb => ?_, fun b hb => ?_⟩
        · rw [pk_un (by omega)]
          exact h1 a ha b hb
        · by_cases e : b = j
          · subst e
            rw [pk_us]
          · rw [pk_un (by omega)]
            exact h2 b (by omega)
      by_cases e : i = j
      · refine br_m (by rw [e]) ⟨vp_in_nI (by omega) (by omega), ih2 _ (hq 0 ?_)⟩
        rw [if_pos e]; rfl
      · refine br_n (fun q => e ((nI_eq (by omega) (by omega)).mp q)) ⟨vp_in_nI (by omega) (by omega), ih2 _ (hq 1000000 ?_)⟩
        rw [if_neg e]; rfl

