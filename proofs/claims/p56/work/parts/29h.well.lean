/-! what is seen; two rows alike; the law's distances; is it well -/
def zsn0 (A : Nat → Nat) : Nat → Int32 := upd (upd (upd (upd (upd (upd (upd (upd (upd (upd (fun _ => 0) 0 (nI (A 0))) 1 (nI (A 1))) 2 (nI (A 2))) 3 (nI (A 3))) 4 (nI (A 4))) 5 (nI (A 5))) 6 (nI (A 6))) 7 (nI (A 7))) 8 (nI (A 8))) 9 (nI (A 9))
def zsnS (A : Nat → Nat) : Nat → (Nat → Int32)
  | 0 => zsn0 A
  | i + 1 => upd (upd (upd (upd (upd (upd (upd (zsnS A i) (10 + 7 * i) (nI (A (10 + 7 * i)))) (11 + 7 * i) (nI (A (11 + 7 * i)))) (12 + 7 * i) (nI (A (12 + 7 * i)))) (13 + 7 * i) (nI (A (13 + 7 * i)))) (14 + 7 * i) (nI (A (14 + 7 * i)))) (15 + 7 * i) (zsalt A i)) (16 + 7 * i) (nI (A (16 + 7 * i)))
def zsnQ (A : Nat → Nat) (j : Nat) (f : Nat → Int32) : Nat → (Nat → Int32)
  | 0 => f
  | p + 1 => upd (zsnQ A j f p) (104 + 10 * j + p) (nI (A (98 + 9 * j + p)))
def zsnP (A : Nat → Nat) : Nat → (Nat → Int32)
  | 0 => zsnS A (A 1)
  | j + 1 => zsnQ A j (upd (upd (upd (upd (zsnP A j) (100 + 10 * j) (nI (A (94 + 9 * j)))) (101 + 10 * j) (nI (A (95 + 9 * j)))) (102 + 10 * j) (zcur A j)) (103 + 10 * j) (nI (A (97 + 9 * j)))) (A (97 + 9 * j))
/-- the row of 160 -/
def zsn (A : Nat → Nat) : Nat → Int32 := zsnP A (A 2)
theorem zS0.I {tb : Nat} {Z : (Nat → Nat) → Prop} {A : Nat → Nat} {c : Nat} {h : Nat → Nat → Nat} {n : Nat} {x : Nat → Nat} {V : DV} (hV : zS0 tb Z A c h n x V) : zI A := hV.2.1.1
theorem z_pl (a b : Nat) {c : Nat} (h : a + b = c) : nI a + nI b = nI c := by rw [nI_add, h]
theorem z_ml (a b : Nat) : nI a * nI b = nI (a * b) := pk_mul a b
theorem q_seen {tb : Nat} {Z : (Nat → Nat) → Prop} {A : Nat → Nat} {c : Nat} {h : Nat → Nat → Nat} {V : DV} (htb : tb < 2 ^ 29) (hV : zST tb Z A c h V) {post : DV → (Nat → Nat) → (Nat → Int32) → Prop} (hp : ∀ at_, post V at_ (zsn A)) : wpL_seen V post := by
  have hI := hV.I
  have hA := hI.1
  have v : ∀ k : Nat, k < 160 → vp_in (nI k) 160 := fun k hk => vp_in_nI hk (by omega)
  unfold wpL_seen
  intro at_y
  refine q_time hV ⟨v 0 (by omega), q_streetCount hV ⟨v 1 (by omega), q_ploughCount hV ⟨v 2 (by omega), q_saltStore hV ⟨v 3 (by omega), q_snowfall hV ⟨v 4 (by omega), q_wind hV ⟨v 5 (by omega), q_clearedTotal hV ⟨v 6 (by omega), q_ploughedTotal hV ⟨v 7 (by omega), q_failedOrders hV ⟨v 8 (by omega), q_complaintTotal hV ⟨v 9 (by omega), ?_⟩⟩⟩⟩⟩⟩⟩⟩⟩⟩
  refine pk_loopB (fun n i f => wpL_seen_L82 post n (nI i) V at_y f) (fun i f => f = zsnS A i) (A 1) 0 _ (Nat.zero_le _) (by omega) rfl ?_ ?_
  · rintro n f rfl
    show wpL_seen_L82 post (n + 1) (nI (A 1)) V at_y (zsnS A (A 1))
    unfold wpL_seen_L82
    refine q_streetCount hV (br_t (nI_le (Nat.le_refl _) (by omega)) ?_)
    refine pk_loopB (fun n j f => wpL_seen_L175 post n (nI j) V at_y f) (fun j f => f = zsnP A j) (A 2) 0 _ (Nat.zero_le _) (by omega) rfl ?_ ?_
    · rintro n f rfl
      show wpL_seen_L175 post (n + 1) (nI (A 2)) V at_y (zsnP A (A 2))
      unfold wpL_seen_L175
      exact q_ploughCount hV (br_t (nI_le (Nat.le_refl _) (by omega)) (hp at_y))
    · rintro n j f hj rfl ih
      have g := zI_pl hI hj
      have g5 := g.2.2.2.1
      show wpL_seen_L175 post (n + 1) (nI j) V at_y (zsnP A j)
      unfold wpL_seen_L175
      have e0 : (100 : Int32) + 10 * nI j = nI (100 + 10 * j) := by rw [show (10 : Int32) * nI j = nI (10 * j) from z_ml 10 j]; exact nI_add 100 (10 * j)
      have e1 : nI (100 + 10 * j) + 1 = nI (101 + 10 * j) := z_pl _ 1 (by omega)
      have e2 : nI (100 + 10 * j) + 2 = nI (102 + 10 * j) := z_pl _ 2 (by omega)
      have e3 : nI (100 + 10 * j) + 3 = nI (103 + 10 * j) := z_pl _ 3 (by omega)
      have c0 : (nI (100 + 10 * j)).toNatClampNeg = 100 + 10 * j := nI_clamp (by omega)
      have c1 : (nI (101 + 10 * j)).toNatClampNeg = 101 + 10 * j := nI_clamp (by omega)
      have c2 : (nI (102 + 10 * j)).toNatClampNeg = 102 + 10 * j := nI_clamp (by omega)
      have c3 : (nI (103 + 10 * j)).toNatClampNeg = 103 + 10 * j := nI_clamp (by omega)
      rw [e0, e1, e2, e3, c0, c1, c2, c3]
      refine q_ploughCount hV (br_f (nI_ge hj (by omega)) (q_junction hV hj ⟨v _ (by omega), q_busyMinutes hV hj ⟨v _ (by omega), q_currentStreet hV hj ⟨v _ (by omega), q_queueLength hV hj ⟨v _ (by omega), ?_⟩⟩⟩⟩))
      refine pk_loopB (fun m p f => wpL_seen_L232 (fun v1 v2 v3 v4 => wpL_seen_L175 post n v1 v2 v3 v4) post m (nI j) (nI (100 + 10 * j)) (nI p) V at_y f) (fun p f => f = zsnQ A j (upd (upd (upd (upd (zsnP A j) (100 + 10 * j) (nI (A (94 + 9 * j)))) (101 + 10 * j) (nI (A (95 + 9 * j)))) (102 + 10 * j) (zcur A j)) (103 + 10 * j) (nI (A (97 + 9 * j)))) p) (A (97 + 9 * j)) 0 _ (Nat.zero_le _) (by omega) rfl ?_ ?_
      · rintro m f rfl
        show wpL_seen_L232 (fun v1 v2 v3 v4 => wpL_seen_L175 post n v1 v2 v3 v4) post (m + 1) (nI j) (nI (100 + 10 * j)) (nI (A (97 + 9 * j))) V at_y _
        unfold wpL_seen_L232
        refine q_queueLength hV hj (br_t (nI_le (Nat.le_refl _) (by omega)) ?_)
        rw [nI_1]
        exact ih _ rfl
      · rintro m p f hp2 rfl ih2
        show wpL_seen_L232 (fun v1 v2 v3 v4 => wpL_seen_L175 post n v1 v2 v3 v4) post (m + 1) (nI j) (nI (100 + 10 * j)) (nI p) V at_y _
        unfold wpL_seen_L232
        have e4 : nI (100 + 10 * j) + 4 = nI (104 + 10 * j) := z_pl _ 4 (by omega)
        have e5 : nI (104 + 10 * j) + nI p = nI (104 + 10 * j + p) := nI_add _ _
        have c5 : (nI (104 + 10 * j + p)).toNatClampNeg = 104 + 10 * j + p := nI_clamp (by omega)
        rw [e4, e5, c5, nI_1 p]
        exact q_queueLength hV hj (br_f (nI_ge hp2 (by omega)) (q_queuedStreet hV hj hp2 ⟨v _ (by omega), ih2 _ rfl⟩))
  · rintro n i f hi rfl ih
    show wpL_seen_L82 post (n + 1) (nI i) V at_y (zsnS A i)
    unfold wpL_seen_L82
    have e0 : (10 : Int32) + 7 * nI i = nI (10 + 7 * i) := by rw [show (7 : Int32) * nI i = nI (7 * i) from z_ml 7 i]; exact nI_add 10 (7 * i)
    have e1 : nI (10 + 7 * i) + 1 = nI (11 + 7 * i) := z_pl _ 1 (by omega)
    have e2 : nI (10 + 7 * i) + 2 = nI (12 + 7 * i) := z_pl _ 2 (by omega)
    have e3 : nI (10 + 7 * i) + 3 = nI (13 + 7 * i) := z_pl _ 3 (by omega)
    have e4 : nI (10 + 7 * i) + 4 = nI (14 + 7 * i) := z_pl _ 4 (by omega)
    have e5 : nI (10 + 7 * i) + 5 = nI (15 + 7 * i) := z_pl _ 5 (by omega)
    have e6 : nI (10 + 7 * i) + 6 = nI (16 + 7 * i) := z_pl _ 6 (by omega)
    have c0 : (nI (10 + 7 * i)).toNatClampNeg = 10 + 7 * i := nI_clamp (by omega)
    have c1 : (nI (11 + 7 * i)).toNatClampNeg = 11 + 7 * i := nI_clamp (by omega)
    have c2 : (nI (12 + 7 * i)).toNatClampNeg = 12 + 7 * i := nI_clamp (by omega)
    have c3 : (nI (13 + 7 * i)).toNatClampNeg = 13 + 7 * i := nI_clamp (by omega)
    have c4 : (nI (14 + 7 * i)).toNatClampNeg = 14 + 7 * i := nI_clamp (by omega)
    have c5 : (nI (15 + 7 * i)).toNatClampNeg = 15 + 7 * i := nI_clamp (by omega)
    have c6 : (nI (16 + 7 * i)).toNatClampNeg = 16 + 7 * i := nI_clamp (by omega)
    rw [e0, e1, e2, e3, e4, e5, e6, c0, c1, c2, c3, c4, c5, c6, nI_1]
    exact q_streetCount hV (br_f (nI_ge hi (by omega)) (q_lowerEnd hV hi ⟨v _ (by omega), q_higherEnd hV hi ⟨v _ (by omega), q_streetClass hV hi ⟨v _ (by omega), q_length hV hi ⟨v _ (by omega), q_depth hV hi ⟨v _ (by omega), q_saltMinutes hV htb hi ⟨v _ (by omega), q_complaints hV hi ⟨v _ (by omega), ih _ rfl⟩⟩⟩⟩⟩⟩⟩))
/-- a row is like itself -/
theorem q_alike {f : Nat → Int32} {post : Int32 → Prop} (hp : post 1) : wpL_areAlike f f post := by
  unfold wpL_areAlike
  refine pk_loopB (σ := Unit) (fun n i _ => wpL_areAlike_L2 f f post n (nI i)) (fun _ _ => True) 160 0 () (by omega) (by omega) trivial ?_ ?_
  · intro n _ _
    exact br_t (nI_le (b := 160) (Nat.le_refl _) (by omega)) hp
  · intro n i _ hi _ ih
    refine br_f (nI_ge (b := 160) hi (by omega)) ⟨vp_in_nI hi (by omega), vp_in_nI hi (by omega), br_t rfl ?_⟩
    rw [nI_1]
    exact ih () trivial
/-! the law's distances -/
def zTD (f : Nat → Nat → Int32) (c : Nat → Nat → Nat) : Prop := ∀ i : Nat, i < 8 → ∀ j : Nat, j < 8 → f i j = nI (c i j)
theorem zd_in {f : Nat → Nat → Int32} {i j : Nat} {x : Int32} : zd_up f i j x i j = x := by
  unfold zd_up
  rw [if_pos rfl, pk_us]
theorem zd_out {f : Nat → Nat → Int32} {i j a b : Nat} {x : Int32} (h : ¬ (a = i ∧ b = j)) : zd_up f i j x a b = f a b := by
  unfold zd_up
  by_cases e : a = i
  · rw [if_pos e, pk_un (fun q => h ⟨e, q⟩), e]
  · rw [if_neg e]
theorem zTD_u {f : Nat → Nat → Int32} {c : Nat → Nat → Nat} (h : zTD f c) (i j v : Nat) : zTD (zd_up f i j (nI v)) (zcu c i j v) := by
  intro a ha b hb
  unfold zcu
  by_cases e : a = i ∧ b = j
  · rw [if_pos e, e.1, e.2, zd_in]
  · rw [if_neg e, zd_out e, h a ha b hb]
/-- as zFW, where 9999 is for no path -/
def zFD (A : Nat → Nat) (k : Nat) (c : Nat → Nat → Nat) : Prop :=
  (∀ i : Nat, i < 8 → ∀ j : Nat, j < 8 → c i j ≤ 9999 ∧ (c i j < 9999 → zD A i j < 9999 ∧ zD A i j ≤ c i j)) ∧ ∀ i : Nat, i < 8 → ∀ j : Nat, j < 8 → ∀ w, zP (zG A) k i j w → c i j ≤ w
theorem zFD_8 {A : Nat → Nat} (hI : zI A) {c : Nat → Nat → Nat} (h : zFD A 8 c) {i j : Nat} (hi : i < 8) (hj : j < 8) : c i j = zD A i j := by
  have d9 := (zD_sp hI i).2.2.2.2 j
  have q1 := h.1 i hi j hj
  by_cases ef : zD A i j < 9999
  · obtain ⟨w, hw, pw⟩ := zP_all (zG_E hI) (zD_sp hI i) _ j hj (Nat.le_refl _) ef
    have q2 := h.2 i hi j hj w pw
    have q3 := q1.2 (by omega)
    omega
  · by_cases e : c i j < 9999
    · exact absurd (q1.2 e).1 ef
    · omega
theorem zFD_u {A : Nat → Nat} (hI : zI A) {k i j : Nat} (hk : k < 8) (hi : i < 8) (hj : j < 8) {c : Nat → Nat → Nat} (h2 : zFD A k c) : zFD A k (zcu c i j (if c i j < c i k + c k j then c i j else c i k + c k j)) := by
  have b1 := h2.1 i hi k hk
  have b2 := h2.1 k hk j hj
  have b3 := h2.1 i hi j hj
  refine ⟨fun a ha b hb => ?_, fun a ha b hb w hw => ?_⟩
  · unfold zcu
    by_cases e2 : a = i ∧ b = j
    · rw [if_pos e2, e2.1, e2.2]
      by_cases e : c i j < c i k + c k j
      · rw [if_pos e]
        exact b3
      · rw [if_neg e]
        refine ⟨by omega, fun _ => ?_⟩
        have q1 := b1.2 (by omega)
        have q2 := b2.2 (by omega)
        have q3 := zSP_tri (e := zG A) (D := zD A) (fun u _ => zD_sp hI u) (zG_E hI) hi hk q1.1 _ j hj (Nat.le_refl _) q2.1
        omega
    · rw [if_neg e2]
      exact h2.1 a ha b hb
  · unfold zcu
    by_cases e2 : a = i ∧ b = j
    · rw [if_pos e2]
      have := h2.2 a ha b hb w hw
      rw [e2.1, e2.2] at this
      split <;> omega
    · rw [if_neg e2]
      exact h2.2 a ha b hb w hw
/-- streets in the law's table -/
def zED (A : Nat → Nat) (i : Nat) (c : Nat → Nat → Nat) : Prop := ∀ a : Nat, a < 8 → ∀ b : Nat, b < 8 → (a = b → c a b = 0) ∧ (a ≠ b → (∃ i' : Nat, i' < i ∧ ((A (10 + 7 * i') = a ∧ A (11 + 7 * i') = b) ∨ (A (10 + 7 * i') = b ∧ A (11 + 7 * i') = a)) ∧ c a b = A (13 + 7 * i')) ∨ ((∀ i' : Nat, i' < i → ¬ ((A (10 + 7 * i') = a ∧ A (11 + 7 * i') = b) ∨ (A (10 + 7 * i') = b ∧ A (11 + 7 * i') = a))) ∧ c a b = 9999))
theorem zED_s {A : Nat → Nat} (hI : zI A) {i : Nat} (hi : i < A 1) {c : Nat → Nat → Nat} (h2 : zED A i c) : zED A (i + 1) (zcu (zcu c (A (10 + 7 * i)) (A (11 + 7 * i)) (A (13 + 7 * i))) (A (11 + 7 * i)) (A (10 + 7 * i)) (A (13 + 7 * i))) := by
  have hs := hI.2.1 i hi
  intro a ha b hb
  refine ⟨fun e => ?_, fun e => ?_⟩
  · unfold zcu
    rw [if_neg (by omega), if_neg (by omega)]
    exact (h2 a ha b hb).1 e
  · by_cases ej : (A (10 + 7 * i) = a ∧ A (11 + 7 * i) = b) ∨ (A (10 + 7 * i) = b ∧ A (11 + 7 * i) = a)
    · refine Or.inl ⟨i, by omega, ej, ?_⟩
      unfold zcu
      rcases ej with ⟨e1, e2⟩ | ⟨e1, e2⟩
      · rw [if_neg (by omega), if_pos ⟨e1.symm, e2.symm⟩]
      · rw [if_pos ⟨e2.symm, e1.symm⟩]
    · have ec : zcu (zcu c (A (10 + 7 * i)) (A (11 + 7 * i)) (A (13 + 7 * i))) (A (11 + 7 * i)) (A (10 + 7 * i)) (A (13 + 7 * i)) a b = c a b := by
        unfold zcu
        rw [if_neg (by omega), if_neg (by omega)]
      rw [ec]
      rcases (h2 a ha b hb).2 e with ⟨i', hi', hxy, ec⟩ | ⟨hn, ec⟩
      · exact Or.inl ⟨i', by omega, hxy, ec⟩
      · refine Or.inr ⟨fun i' hi' => ?_, ec⟩
        by_cases e9 : i' = i
        · rw [e9]
          exact ej
        · exact hn i' (by omega)
theorem zED_F {A : Nat → Nat} (hI : zI A) {c : Nat → Nat → Nat} (h2 : zED A (A 1) c) : zFD A 0 c := by
  refine ⟨fun a ha b hb => ?_, fun a ha b hb w hw => ?_⟩
  · by_cases e : a = b
    · subst e
      rw [(h2 a ha a hb).1 rfl, (zD_sp hI a).1]
      omega
    · rcases (h2 a ha b hb).2 e with ⟨i, hi, hxy, ec⟩ | ⟨hn, ec⟩
      · have hs := hI.2.1 i hi
        have := (zD_sp hI a).2.1 a b _ ⟨i, hi, rfl, hxy⟩ (by rw [(zD_sp hI a).1]; omega)
        rw [(zD_sp hI a).1] at this
        rw [ec]
        omega
      · rw [ec]
        omega
  · rcases hw with ⟨e, rfl⟩ | ⟨i, hi, rfl, hxy⟩
    · rw [(h2 a ha b hb).1 e]
      exact Nat.le_refl _
    · have hne : a ≠ b := zG_ne hI ⟨i, hi, rfl, hxy⟩
      rcases (h2 a ha b hb).2 hne with ⟨i', hi', hxy', ec⟩ | ⟨hn, ec⟩
      · rw [ec, zG_one hI (l := A (13 + 7 * i')) (l' := A (13 + 7 * i)) ⟨i', hi', rfl, hxy'⟩ ⟨i, hi, rfl, hxy⟩]
        exact Nat.le_refl _
      · exact absurd hxy (hn i hi)
theorem q_dist {tb : Nat} {Z : (Nat → Nat) → Prop} {A : Nat → Nat} {c : Nat} {h : Nat → Nat → Nat} {V : DV} (hV : zST tb Z A c h V) {post : DV → (Nat → Nat) → (Nat → Nat → Int32) → Prop} (hp : ∀ at_ f, zTD f (zD A) → post V at_ f) : wpL_distances V post := by
  have hI := hV.I
  have hA := hI.1
  have v : ∀ k : Nat, k < 8 → vp_in (nI k) 8 := fun k hk => vp_in_nI hk (by omega)
  have cl : ∀ k : Nat, k < 8 → (nI k).toNatClampNeg = k := fun k hk => nI_clamp (by omega)
  unfold wpL_distances
  intro at_y
  refine pk_loopB (fun n i f => wpL_distances_L11 post n (nI i) V at_y f) (fun i f => ∀ a : Nat, a < i → ∀ b : Nat, b < 8 → f a b = nI (if a = b then 0 else 9999)) 8 0 _ (by omega) (by omega) (fun a ha => absurd ha (Nat.not_lt_zero a)) ?_ ?_
  · intro n f hf
    refine br_t (nI_le (b := 8) (Nat.le_refl _) (by omega)) ?_
    refine pk_loopB (fun n i f => wpL_distances_L56 post n (nI i) V at_y f) (fun i f => ∃ c, zTD f c ∧ zED A i c) (A 1) 0 f (Nat.zero_le _) (by omega) ?_ ?_ ?_
    · exact ⟨fun a b => if a = b then 0 else 9999, hf, fun a _ b _ => ⟨fun e => if_pos e, fun e => Or.inr ⟨fun i hi => absurd hi (Nat.not_lt_zero i), if_neg e⟩⟩⟩
    · rintro n f ⟨c, h1, h2⟩
      show wpL_distances_L56 post (n + 1) (nI (A 1)) V at_y f
      unfold wpL_distances_L56
      refine q_streetCount hV (br_t (nI_le (Nat.le_refl _) (by omega)) ?_)
      refine pk_loopB (fun n k f => wpL_distances_L108 post n (nI k) V at_y f) (fun k f => ∃ c, zTD f c ∧ zFD A k c) 8 0 f (by omega) (by omega) ⟨c, h1, zED_F hI h2⟩ ?_ ?_
      · rintro n f ⟨c, h1, h2⟩
        refine br_t (nI_le (b := 8) (Nat.le_refl _) (by omega)) (hp at_y f (fun i hi j hj => ?_))
        rw [h1 i hi j hj, zFD_8 hI h2 hi hj]
      · rintro n k f hk ⟨c, h1, h2⟩ ih
        refine br_f (nI_ge (b := 8) hk (by omega)) ?_
        refine pk_loopB (fun m i f => wpL_distances_L116 (fun v1 v2 v3 v4 => wpL_distances_L108 post n v1 v2 v3 v4) post m (nI k) (nI i) V at_y f) (fun i f => ∃ c, zTD f c ∧ zFD A k c ∧ ∀ a : Nat, a < i → ∀ b : Nat, b < 8 → ∀ w1 w2, zP (zG A) k a k w1 → zP (zG A) k k b w2 → c a b ≤ w1 + w2) 8 0 f (by omega) (by omega) ⟨c, h1, h2, fun a ha => absurd ha (Nat.not_lt_zero a)⟩ ?_ ?_
        · rintro m f ⟨c, h1, h2, h3⟩
          refine br_t (nI_le (b := 8) (Nat.le_refl _) (by omega)) ?_
          rw [nI_1]
          refine ih f ⟨c, h1, h2.1, fun i hi j hj w hw => ?_⟩
          rcases hw with hw | ⟨w1, w2, hw1, hw2, rfl⟩
          · exact h2.2 i hi j hj w hw
          · exact h3 i hi j hj w1 w2 hw1 hw2
        · rintro m i f hi ⟨c, h1, h2, h3⟩ ih2
          refine br_f (nI_ge (b := 8) hi (by omega)) ?_
          refine pk_loopB (fun m2 j f => wpL_distances_L125 (fun v1 v2 v3 v4 v5 => wpL_distances_L116 (fun v1 v2 v3 v4 => wpL_distances_L108 post n v1 v2 v3 v4) post m v1 v2 v3 v4 v5) (fun v1 v2 v3 v4 => wpL_distances_L108 post n v1 v2 v3 v4) post m2 (nI k) (nI i) (nI j) V at_y f) (fun j f => ∃ c, zTD f c ∧ zFD A k c ∧ (∀ a : Nat, a < i → ∀ b : Nat, b < 8 → ∀ w1 w2, zP (zG A) k a k w1 → zP (zG A) k k b w2 → c a b ≤ w1 + w2) ∧ ∀ b : Nat, b < j → ∀ w1 w2, zP (zG A) k i k w1 → zP (zG A) k k b w2 → c i b ≤ w1 + w2) 8 0 f (by omega) (by omega) ⟨c, h1, h2, h3, fun b hb => absurd hb (Nat.not_lt_zero b)⟩ ?_ ?_
          · rintro m2 f ⟨c, h1, h2, h3, h4⟩
            refine br_t (nI_le (b := 8) (Nat.le_refl _) (by omega)) ?_
            rw [nI_1]
            refine ih2 f ⟨c, h1, h2, fun a ha b hb => ?_⟩
            by_cases e : a = i
            · subst e
              exact h4 b hb
            · exact h3 a (by omega) b hb
          · rintro m2 j f hj ⟨c, h1, h2, h3, h4⟩ ih3
            have b1 := h2.1 i hi k hk
            have b2 := h2.1 k hk j hj
            have b3 := h2.1 i hi j hj
            refine br_f (nI_ge (b := 8) hj (by omega)) ⟨v i hi, v i hi, v j hj, v i hi, v k hk, v k hk, v j hj, v j hj, ?_⟩
            rw [cl i hi, cl k hk, cl j hj, h1 i hi k hk, h1 k hk j hj, h1 i hi j hj, nI_add, z_min (by omega) (by omega), nI_1]
            refine ih3 _ ⟨_, zTD_u h1 i j _, zFD_u hI hk hi hj h2, fun a ha b hb w1 w2 hw1 hw2 => ?_, fun b hb w1 w2 hw1 hw2 => ?_⟩
            · unfold zcu
              rw [if_neg (by omega)]
              exact h3 a ha b hb w1 w2 hw1 hw2
            · unfold zcu
              by_cases eb : b = j
              · subst eb
                rw [if_pos ⟨rfl, rfl⟩]
                have p1 := h2.2 i hi k hk w1 hw1
                have p2 := h2.2 k hk b hj w2 hw2
                split <;> omega
              · rw [if_neg (by omega)]
                exact h4 b (by omega) w1 w2 hw1 hw2
    · rintro n i f hi ⟨c, h1, h2⟩ ih
      have hs := hI.2.1 i hi
      show wpL_distances_L56 post (n + 1) (nI i) V at_y f
      unfold wpL_distances_L56
      refine q_streetCount hV (br_f (nI_ge hi (by omega)) (q_lowerEnd hV hi ⟨v _ (by omega), q_higherEnd hV hi (q_length hV hi ⟨v _ (by omega), q_higherEnd hV hi ⟨v _ (by omega), q_lowerEnd hV hi (q_length hV hi ⟨v _ (by omega), ?_⟩)⟩⟩)⟩))
      rw [cl _ (by omega), cl _ (by omega), nI_1]
      exact ih _ ⟨_, zTD_u (zTD_u h1 _ _ _) _ _ _, zED_s hI hi h2⟩
  · intro n i f hi h0 ih
    refine br_f (nI_ge (b := 8) hi (by omega)) ?_
    refine pk_loopB (fun m j f => wpL_distances_L19 (fun v1 v2 v3 v4 => wpL_distances_L11 post n v1 v2 v3 v4) post m (nI i) (nI j) V at_y f) (fun j f => (∀ a : Nat, a < i → ∀ b : Nat, b < 8 → f a b = nI (if a = b then 0 else 9999)) ∧ ∀ b : Nat, b < j → f i b = nI (if i = b then 0 else 9999)) 8 0 f (by omega) (by omega) ⟨h0, fun b hb => absurd hb (Nat.not_lt_zero b)⟩ ?_ ?_
    · rintro m f ⟨h1, h2⟩
      refine br_t (nI_le (b := 8) (Nat.le_refl _) (by omega)) ?_
      rw [nI_1]
      refine ih f (fun a ha b hb => ?_)
      by_cases e : a = i
      · subst e
        exact h2 b hb
      · exact h1 a (by omega) b hb
    · rintro m j f hj ⟨h1, h2⟩ ih2
      have hq : ∀ x, x = nI (if i = j then 0 else 9999) → (∀ a : Nat, a < i → ∀ b : Nat, b < 8 → zd_up f i j x a b = nI (if a = b then 0 else 9999)) ∧ ∀ b : Nat, b < j + 1 → zd_up f i j x i b = nI (if i = b then 0 else 9999) := by
        rintro x rfl
        refine ⟨fun a ha b hb => ?_, fun b hb => ?_⟩
        · rw [zd_out (by omega)]
          exact h1 a ha b hb
        · by_cases e : b = j
          · subst e
            rw [zd_in]
          · rw [zd_out (by omega)]
            exact h2 b (by omega)
      refine br_f (nI_ge (b := 8) hj (by omega)) ⟨v i hi, ?_⟩
      rw [cl i hi, cl j hj, nI_1]
      by_cases e : i = j
      · exact br_m (by rw [e]) ⟨v j hj, ih2 _ (hq 0 (by rw [if_pos e]; rfl))⟩
      · exact br_n (fun q => e ((nI_eq (by omega) (by omega)).mp q)) ⟨v j hj, ih2 _ (hq 9999 (by rw [if_neg e]; rfl))⟩
/-! is it well -/
theorem q_limit {tb : Nat} {Z : (Nat → Nat) → Prop} {A : Nat → Nat} {c : Nat} {h : Nat → Nat → Nat} {V : DV} (hV : zST tb Z A c h V) {i : Nat} (hi : i < A 1) {post : Int32 → DV → Prop} (hp : post (nI (zlim (A (12 + 7 * i)))) V) : wpL_limit (nI i) V post := by
  have g := hV.I.2.1 i hi
  unfold wpL_limit
  refine q_streetClass hV hi ?_
  rw [show nI (A (12 + 7 * i)) - 97 = nI (A (12 + 7 * i) - 97) from pk_sub (b := 97) (by omega), nI_1, show (5 : Int32) * nI (A (12 + 7 * i) - 97 + 1) = nI (5 * (A (12 + 7 * i) - 97 + 1)) from z_ml 5 _, show 5 * (A (12 + 7 * i) - 97 + 1) = zlim (A (12 + 7 * i)) by unfold zlim; omega]
  exact hp
theorem z_salt {A : Nat → Nat} (hI : zI A) {i : Nat} (hi : i < A 1) (h0 : A 0 < 2 ^ 29) : ¬ 240 < zsalt A i ∧ (zsalt A i ≤ 0 ↔ ¬ A 0 < A (15 + 7 * i)) := by
  have g := hI.2.1 i hi
  unfold zsalt
  by_cases e : A 0 < A (15 + 7 * i)
  · rw [if_pos e]
    exact ⟨nI_nlt (b := A (15 + 7 * i) - A 0) (a := 240) (by omega) (by omega), ⟨fun q => absurd q (nI_nle (by omega) (by omega)), fun q => absurd e q⟩⟩
  · rw [if_neg e]
    exact ⟨by decide, ⟨fun _ => e, fun _ => by decide⟩⟩
/-- what the law needs of a town -/
def zWl (A : Nat → Nat) : Prop := zJ A ∧ 1 ≤ A 1 ∧ 1 ≤ A 2
theorem zWl.go {A B : Nat → Nat} (h : zWl A) (g : zGo A B) : zWl B := ⟨g.2.2 h.1, Nat.le_trans h.2.1 g.1, Nat.le_trans h.2.2 g.2.1⟩
theorem q_well {tb : Nat} {Z : (Nat → Nat) → Prop} {A : Nat → Nat} {c : Nat} {h : Nat → Nat → Nat} {V : DV} (htb : tb < 2 ^ 29) (hJ : zJ A) (hV : zST tb Z A c h V) {post : Int32 → DV → Prop} (hp : ∀ V', zST tb Z A c h V' → post 1 V') : wpL_isWell V post := by
  have hI := hV.I
  have hA := hI.1
  have hA0 : A 0 < 2 ^ 29 := by have := hV.1; omega
  have v : ∀ k : Nat, k < 8 → vp_in (nI k) 8 := fun k hk => vp_in_nI hk (by omega)
  have cl : ∀ k : Nat, k < 8 → (nI k).toNatClampNeg = k := fun k hk => nI_clamp (by omega)
  unfold wpL_isWell
  refine q_dist hV (fun at_y f hf => ?_)
  refine pk_loopB (fun n i W => wpL_isWell_L9 post n 0 (nI i) W at_y f) (fun _ W => zST tb Z A c h W) 8 0 V (by omega) (by omega) hV ?_ ?_
  · intro n W hW
    refine br_t (nI_le (b := 8) (Nat.le_refl _) (by omega)) ?_
    refine pk_loopB (fun n i W => wpL_isWell_L90 post n (nI (zsum (fun k => A (16 + 7 * k)) i)) (nI i) W at_y f) (fun _ W => zST tb Z A c h W) (A 1) 0 W (Nat.zero_le _) (by omega) hW ?_ ?_
    · intro n W hW
      show wpL_isWell_L90 post (n + 1) (nI (zsum (fun k => A (16 + 7 * k)) (A 1))) (nI (A 1)) W at_y f
      unfold wpL_isWell_L90
      refine q_streetCount hW (br_t (nI_le (Nat.le_refl _) (by omega)) ?_)
      rw [hJ.1]
      refine pk_loopB (fun n j W => wpL_isWell_L221 post n (nI (A 9)) (nI j) W at_y f) (fun _ W => zST tb Z A c h W) (A 2) 0 W (Nat.zero_le _) (by omega) hW ?_ ?_
      · intro n W hW
        show wpL_isWell_L221 post (n + 1) (nI (A 9)) (nI (A 2)) W at_y f
        unfold wpL_isWell_L221
        exact q_ploughCount hW (br_t (nI_le (Nat.le_refl _) (by omega)) (q_complaintTotal hW (br_m rfl (q_saltStore hW (br_f (nI_pos (by omega)) (q_saltStore hW (br_f (nI_nlt (a := 500) (by omega) (by omega)) (q_isConsistent hW hJ.1 (fun W' hW' => br_f (by decide) (hp W' hW'))))))))))
      · intro n j W hj hW ih
        have g := zI_pl hI hj
        have g2 := g.2.1
        have g5 := g.2.2.2.1
        show wpL_isWell_L221 post (n + 1) (nI (A 9)) (nI j) W at_y f
        unfold wpL_isWell_L221
        have h323 : ∀ W, zST tb Z A c h W → ∃ n_323, n_323 ≤ 13 ∧ wpL_isWell_L323 (fun v1 v2 v3 v4 v5 => wpL_isWell_L221 post n v1 v2 v3 v4 v5) post n_323 (nI (A 9)) (nI j) 0 W at_y f := by
          intro W hW
          refine pk_loopB (fun m i W => wpL_isWell_L323 (fun v1 v2 v3 v4 v5 => wpL_isWell_L221 post n v1 v2 v3 v4 v5) post m (nI (A 9)) (nI j) (nI i) W at_y f) (fun _ W => zST tb Z A c h W) (A 1) 0 W (Nat.zero_le _) (by omega) hW ?_ ?_
          · intro m W hW
            show wpL_isWell_L323 (fun v1 v2 v3 v4 v5 => wpL_isWell_L221 post n v1 v2 v3 v4 v5) post (m + 1) (nI (A 9)) (nI j) (nI (A 1)) W at_y f
            unfold wpL_isWell_L323
            refine q_streetCount hW (br_t (nI_le (Nat.le_refl _) (by omega)) ?_)
            rw [nI_1]
            exact ih W hW
          · intro m i W hi hW ih2
            have gs := hI.2.1 i hi
            have d1 := (zD_sp hI (A (94 + 9 * j))).2.2.2.2 (A (10 + 7 * i))
            have d2 := (zD_sp hI (A (94 + 9 * j))).2.2.2.2 (A (11 + 7 * i))
            show wpL_isWell_L323 (fun v1 v2 v3 v4 v5 => wpL_isWell_L221 post n v1 v2 v3 v4 v5) post (m + 1) (nI (A 9)) (nI j) (nI i) W at_y f
            unfold wpL_isWell_L323
            refine q_streetCount hW (br_f (nI_ge hi (by omega)) (q_junction hW hj ⟨v _ g.1, q_lowerEnd hW hi ⟨v _ (by omega), q_junction hW hj ⟨v _ g.1, q_higherEnd hW hi ⟨v _ (by omega), q_orderMinutes hW hj hi (fun W' hW' => ?_)⟩⟩⟩⟩))
            rw [cl _ g.1, cl _ (show A (10 + 7 * i) < 8 by omega), cl _ (show A (11 + 7 * i) < 8 by omega), hf _ g.1 _ (by omega), hf _ g.1 _ (by omega), z_min (by omega) (by omega)]
            have en : (if zD A (A (94 + 9 * j)) (A (10 + 7 * i)) < zD A (A (94 + 9 * j)) (A (11 + 7 * i)) then zD A (A (94 + 9 * j)) (A (10 + 7 * i)) else zD A (A (94 + 9 * j)) (A (11 + 7 * i))) = znr A (A (94 + 9 * j)) i := rfl
            have n9 : znr A (A (94 + 9 * j)) i ≤ 9999 := by rw [← en]; split <;> omega
            rw [en]
            by_cases e : znr A (A (94 + 9 * j)) i < 9999
            · have hn := znr_le hI hi e
              refine br_t (nI_lt (b := 9999) e (by omega)) (q_length hW' hi ?_)
              rw [show zmns A j i = nI (2 * znr A (A (94 + 9 * j)) i + 4 * A (13 + 7 * i)) from if_pos e, show (2 : Int32) * nI (znr A (A (94 + 9 * j)) i) = nI (2 * znr A (A (94 + 9 * j)) i) from z_ml 2 _, show (4 : Int32) * nI (A (13 + 7 * i)) = nI (4 * A (13 + 7 * i)) from z_ml 4 _, nI_add, nI_1]
              exact br_t rfl (ih2 W' hW')
            · refine br_f (nI_nlt (a := znr A (A (94 + 9 * j)) i) (b := 9999) (by omega) (by omega)) ?_
              rw [show zmns A j i = -900002 from if_neg e, nI_1]
              exact br_t rfl (ih2 W' hW')
        have h273 : ∀ W (b : Int32), zST tb Z A c h W → b = (if 0 < A (95 + 9 * j) then 1 else 0) → wpL_isWell_L273 (fun v1 v2 v3 v4 v5 => wpL_isWell_L221 post n v1 v2 v3 v4 v5) post b b (nI (A 9)) (nI j) b (zcur A j) W at_y f := by
          intro W b hW eb
          unfold wpL_isWell_L273
          refine br_m rfl (q_queueLength hW hj (br_f (nI_nlt (b := A (97 + 9 * j)) (a := 5) (by omega) (by omega)) ?_))
          by_cases e : 0 < A (95 + 9 * j)
          · rw [if_pos e] at eb
            have ec : zcur A j = nI (A (96 + 9 * j)) := if_pos e
            have hi := g.2.2.1 e
            have gs := hI.2.1 _ hi
            subst eb
            rw [ec]
            refine br_f (by decide) (q_junction hW hj (q_lowerEnd hW hi ?_))
            rcases hJ.2 j hj e with q | q
            · rw [q]
              exact br_t rfl (h323 W hW)
            · refine ⟨fun _ => h323 W hW, fun _ => q_junction hW hj (q_higherEnd hW hi (br_t (by rw [q]) (h323 W hW)))⟩
          · rw [if_neg e] at eb
            subst eb
            exact br_t rfl (h323 W hW)
        have h258 : ∀ W (b : Int32), zST tb Z A c h W → b = (if 0 < A (95 + 9 * j) then 1 else 0) → wpL_isWell_L258 (fun v1 v2 v3 v4 v5 => wpL_isWell_L221 post n v1 v2 v3 v4 v5) post b b (nI (A 9)) (nI j) b (zcur A j) W at_y f := by
          intro W b hW eb
          unfold wpL_isWell_L258
          refine br_m rfl ?_
          by_cases e : 0 < A (95 + 9 * j)
          · have e2 := eb
            rw [if_pos e] at e2
            have ec : zcur A j = nI (A (96 + 9 * j)) := if_pos e
            have hi := g.2.2.1 e
            refine br_f (by rw [ec]; exact nI_pos (by omega)) ?_
            have := h273 W b hW eb
            rw [e2] at this ⊢
            exact this
          · have e2 := eb
            rw [if_neg e] at e2
            have ec : zcur A j = -900002 := if_neg e
            refine br_t (by rw [ec]; decide) ?_
            have := h273 W b hW eb
            rw [e2] at this ⊢
            exact this
        refine q_ploughCount hW (br_f (nI_ge hj (by omega)) (q_isBusy hW hj (q_currentStreet hW hj (q_busyMinutes hW hj ?_))))
        by_cases e : 0 < A (95 + 9 * j)
        · have := h258 W 1 hW (by rw [if_pos e])
          rw [if_pos e]
          exact br_f (nI_nle (by omega) (by omega)) this
        · have := h258 W 0 hW (by rw [if_neg e])
          rw [if_neg e]
          exact br_t (by rw [show A (95 + 9 * j) = 0 by omega]; decide) this
    · intro n i W hi hW ih
      have g := hI.2.1 i hi
      have zs := z_salt hI hi hA0
      show wpL_isWell_L90 post (n + 1) (nI (zsum (fun k => A (16 + 7 * k)) i)) (nI i) W at_y f
      unfold wpL_isWell_L90
      have h186 : ∀ (b : Int32), wpL_isWell_L186 (fun v1 v2 v3 v4 v5 => wpL_isWell_L90 post n v1 v2 v3 v4 v5) post b b (nI (zsum (fun k => A (16 + 7 * k)) (i + 1))) (nI i) (zsalt A i) W at_y f := by
        intro b
        unfold wpL_isWell_L186
        refine br_m rfl (br_f zs.1 (q_depthNow hW hi (q_depth hW hi (br_t rfl ?_))))
        rw [nI_1]
        exact ih W hW
      have h168 : ∀ (b : Int32), wpL_isWell_L168 (fun v1 v2 v3 v4 v5 => wpL_isWell_L90 post n v1 v2 v3 v4 v5) post b b (nI (zsum (fun k => A (16 + 7 * k)) (i + 1))) (nI i) (zsalt A i) W at_y f := by
        intro b
        unfold wpL_isWell_L168
        refine br_m rfl (q_isSalted hW htb hi ?_)
        by_cases e : A 0 < A (15 + 7 * i)
        · rw [if_pos e]
          exact br_f (fun q => absurd e (zs.2.mp q)) (h186 1)
        · rw [if_neg e]
          exact br_t (zs.2.mpr e) (h186 0)
      refine q_streetCount hW (br_f (nI_ge hi (by omega)) (q_saltMinutes hW htb hi (q_complaints hW hi (q_lowerEnd hW hi (q_higherEnd hW hi (br_f (nI_ge (show A (10 + 7 * i) < A (11 + 7 * i) by omega) (by omega)) (q_depth hW hi (br_f (nI_pos (by omega)) (q_depth hW hi (br_f (nI_nlt (b := A (14 + 7 * i)) (a := 200) (by omega) (by omega)) (q_isOverdue hW hi (q_depth hW hi (q_limit hW hi ?_)))))))))))))
      rw [show nI (zsum (fun k => A (16 + 7 * k)) i) + nI (A (16 + 7 * i)) = nI (zsum (fun k => A (16 + 7 * k)) (i + 1)) from nI_add _ _]
      have lx := zlim_le g.2.2.2.1
      by_cases e : zlim (A (12 + 7 * i)) < A (14 + 7 * i)
      · rw [if_pos e]
        exact br_f (nI_ge e (by omega)) (h168 1)
      · rw [if_neg e]
        exact br_t (nI_le (by omega) (by omega)) (h168 0)
  · intro n i W hi hW ih
    refine br_f (nI_ge (b := 8) hi (by omega)) ?_
    refine pk_loopB (fun m j W => wpL_isWell_L18 (fun v1 v2 v3 v4 v5 => wpL_isWell_L9 post n v1 v2 v3 v4 v5) post m 0 (nI i) (nI j) W at_y f) (fun _ W => zST tb Z A c h W) 8 0 W (by omega) (by omega) hW ?_ ?_
    · intro m W hW
      refine br_t (nI_le (b := 8) (Nat.le_refl _) (by omega)) ?_
      rw [nI_1]
      exact ih W hW
    · intro m j W hj hW ih2
      have d9 := (zD_sp hI i).2.2.2.2 j
      have h48 : wpL_isWell_L48 (fun v1 v2 v3 v4 v5 v6 => wpL_isWell_L18 (fun v1 v2 v3 v4 v5 => wpL_isWell_L9 post n v1 v2 v3 v4 v5) post m v1 v2 v3 v4 v5 v6) (fun v1 v2 v3 v4 v5 => wpL_isWell_L9 post n v1 v2 v3 v4 v5) post (zdst A i j) 0 (nI i) (nI j) W at_y f := by
        unfold wpL_isWell_L48
        refine q_distance hW hi hj (fun W1 hW1 => br_m rfl (q_distanceByJunctions hW1 hi hj (fun W2 hW2 => br_t rfl ?_)))
        rw [nI_1]
        exact ih2 W2 hW2
      refine br_f (nI_ge (b := 8) hj (by omega)) ⟨v i hi, v j hj, ?_⟩
      rw [cl i hi, cl j hj, hf i hi j hj]
      by_cases e : zD A i j < 9999
      · rw [show zdst A i j = nI (zD A i j) from if_pos e] at h48
        exact br_t (nI_lt (b := 9999) e (by omega)) ⟨v i hi, v j hj, h48⟩
      · rw [show zdst A i j = -900002 from if_neg e] at h48
        exact br_f (nI_nlt (a := zD A i j) (b := 9999) (by omega) (by omega)) h48
