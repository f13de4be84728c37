/-! the end of an hour -/
/-- the first i streets' column c is f -/
def zset (A : Nat → Nat) (c : Nat) (f : Nat → Nat) (i : Nat) : Nat → Nat := fun k => if 10 ≤ k ∧ k < 10 + 7 * i ∧ (k - 10) % 7 = c then f ((k - 10) / 7) else A k
theorem zset_in {A : Nat → Nat} {c : Nat} {f : Nat → Nat} {i j : Nat} (hj : j < i) (hc : c < 7) : zset A c f i (10 + 7 * j + c) = f j := by
  unfold zset
  rw [if_pos (by omega), show (10 + 7 * j + c - 10) / 7 = j by omega]
theorem zset_out {A : Nat → Nat} {c : Nat} {f : Nat → Nat} {i k : Nat} (h : ¬ (10 ≤ k ∧ k < 10 + 7 * i ∧ (k - 10) % 7 = c)) : zset A c f i k = A k := if_neg h
theorem zset_oc {A : Nat → Nat} {c d : Nat} {f : Nat → Nat} {i j : Nat} (hd : d < 7) (h : d ≠ c) : zset A c f i (10 + 7 * j + d) = A (10 + 7 * j + d) := zset_out (by omega)
theorem zset_lo {A : Nat → Nat} {c : Nat} {f : Nat → Nat} {i k : Nat} (h : k < 10) : zset A c f i k = A k := zset_out (by omega)
theorem zset_s {A : Nat → Nat} {c : Nat} {f : Nat → Nat} {i : Nat} (hc : c < 7) (k : Nat) : zu (zset A c f i) (10 + 7 * i + c) (f i) k = zset A c f (i + 1) k := by
  unfold zu zset
  by_cases e : k = 10 + 7 * i + c
  · rw [if_pos e, if_pos (by omega), show (k - 10) / 7 = i by omega]
  · rw [if_neg e]
    by_cases e2 : 10 ≤ k ∧ k < 10 + 7 * i ∧ (k - 10) % 7 = c
    · rw [if_pos e2, if_pos (by omega)]
    · rw [if_neg e2, if_neg (by omega)]
theorem zM_eq {A B : Nat → Nat} {m : Nat → Int32} (h : zM A m) (he : ∀ k : Nat, k < 130 → A k = B k) : zM B m := fun k hk => by rw [h k hk, he k hk]
def zf1 (A : Nat → Nat) (i : Nat) : Nat := if 200 < A (14 + 7 * i) + A 4 then 200 else A (14 + 7 * i) + A 4
def zf2 (A : Nat → Nat) (i : Nat) : Nat := if A 0 < A (15 + 7 * i) then zf1 A i - 3 else zf1 A i
def zlv (A : Nat → Nat) (i : Nat) : Nat := if A 5 < zf2 A i / 4 then A 5 else zf2 A i / 4
def zpv (n i : Nat) : Nat := if i = 0 then n - 1 else i - 1
def zf3 (A : Nat → Nat) (i : Nat) : Nat := if 1 < A 1 then (if 200 < zf2 A i - zlv A i + zlv A (zpv (A 1) i) then 200 else zf2 A i - zlv A i + zlv A (zpv (A 1) i)) else zf2 A i
abbrev zov (A : Nat → Nat) (i : Nat) : Prop := zlim (A (12 + 7 * i)) < zf3 A i
def zcp (A : Nat → Nat) (i : Nat) : Nat := A (16 + 7 * i) + (if zov A i then 1 else 0)
/-- a town an hour's end later -/
def zhour (A : Nat → Nat) : Nat → Nat := zu (zset (zset A 4 (zf3 A) (A 1)) 6 (zcp A) (A 1)) 9 (A 9 + zcn (zov A) (A 1))
theorem zf1_le {A : Nat → Nat} {i : Nat} : zf1 A i ≤ 200 := by
  unfold zf1
  split <;> omega
theorem zf2_le {A : Nat → Nat} {i : Nat} : zf2 A i ≤ 200 := by
  have := @zf1_le A i
  unfold zf2
  split <;> omega
theorem zlv_le {A : Nat → Nat} {i : Nat} : zlv A i ≤ zf2 A i := by
  unfold zlv
  split <;> omega
theorem zf3_le {A : Nat → Nat} {i : Nat} : zf3 A i ≤ 200 := by
  have := @zf2_le A i
  unfold zf3
  split
  · split <;> omega
  · omega
theorem zhour_9 {A : Nat → Nat} : zhour A 9 = A 9 + zcn (zov A) (A 1) := zu_s
theorem zhour_lo {A : Nat → Nat} {k : Nat} (h : k < 9) : zhour A k = A k := by
  unfold zhour
  rw [zu_n (by omega), zset_lo (by omega), zset_lo (by omega)]
theorem zhour_hi {A : Nat → Nat} {k : Nat} (h : 10 + 7 * A 1 ≤ k) : zhour A k = A k := by
  unfold zhour
  rw [zu_n (by omega), zset_out (by omega), zset_out (by omega)]
theorem zhour_c {A : Nat → Nat} {i c : Nat} (hc : c < 7) (h4 : c ≠ 4) (h6 : c ≠ 6) : zhour A (10 + 7 * i + c) = A (10 + 7 * i + c) := by
  unfold zhour
  rw [zu_n (by omega), zset_oc hc h6, zset_oc hc h4]
  try dsimp only
theorem zhour_4 {A : Nat → Nat} {i : Nat} (hi : i < A 1) : zhour A (14 + 7 * i) = zf3 A i := by
  unfold zhour
  rw [zu_n (by omega), show 14 + 7 * i = 10 + 7 * i + 4 by omega, zset_oc (by omega) (by omega), zset_in hi (by omega)]
  try dsimp only
theorem zhour_6 {A : Nat → Nat} {i : Nat} (hi : i < A 1) : zhour A (16 + 7 * i) = zcp A i := by
  unfold zhour
  rw [zu_n (by omega), show 16 + 7 * i = 10 + 7 * i + 6 by omega, zset_in hi (by omega)]
  try dsimp only
/-! the class -/
/-- the first i places are new, the others as they were -/
def zPa (i : Nat) (b a : Nat → Nat) : Nat → Nat := fun j => if j < i then b j else a j
theorem zPa_0 {f : Nat → Int32} {n : Nat} {a b : Nat → Nat} (h : zL f n a) : zL f n (zPa 0 b a) := fun j hj => by
  rw [h j hj, show zPa 0 b a j = a j from if_neg (Nat.not_lt_zero j)]
theorem zPa_n {f : Nat → Int32} {n : Nat} {a b : Nat → Nat} (h : zL f n (zPa n b a)) : zL f n b := fun j hj => by
  rw [h j hj, show zPa n b a j = b j from if_pos hj]
theorem zPa_at {f : Nat → Int32} {n i : Nat} {a b : Nat → Nat} (h : zL f n (zPa i b a)) (hi : i < n) : f i = nI (a i) := by
  rw [h i hi, show zPa i b a i = a i from if_neg (Nat.lt_irrefl i)]
theorem zPa_s {f : Nat → Int32} {n i v : Nat} {a b : Nat → Nat} (h : zL f n (zPa i b a)) (hv : v = b i) : zL (upd f i (nI v)) n (zPa (i + 1) b a) := fun j hj => by
  subst hv
  by_cases e : j = i
  · rw [e, pk_us, show zPa (i + 1) b a i = b i from if_pos (Nat.lt_succ_self i)]
  · rw [pk_un e, h j hj]
    unfold zPa
    by_cases e2 : j < i
    · rw [if_pos e2, if_pos (by omega)]
    · rw [if_neg e2, if_neg (by omega)]
theorem zPa_k {f : Nat → Int32} {n i : Nat} {a b : Nat → Nat} (h : zL f n (zPa i b a)) (hv : a i = b i) : zL f n (zPa (i + 1) b a) := fun j hj => by
  rw [h j hj]
  unfold zPa
  by_cases e : j = i
  · rw [e, if_neg (Nat.lt_irrefl i), if_pos (Nat.lt_succ_self i), hv]
  · by_cases e2 : j < i
    · rw [if_pos e2, if_pos (by omega)]
    · rw [if_neg e2, if_neg (by omega)]
theorem z_cap {x : Nat} (hx : x < 2 ^ 31) : (if (200 : Int32) < nI x then (200 : Int32) else nI x) = nI (if 200 < x then 200 else x) := by
  by_cases e : 200 < x
  · rw [if_pos e]
    exact if_pos (nI_lt (a := 200) e hx)
  · rw [if_neg e]
    exact if_neg (nI_nlt (b := x) (a := 200) (by omega) (by omega))
theorem k_fall {n r : Nat} (hn : n ≤ 12) (hr : r ≤ 9) {s_snow : Nat → Int32} {a : Nat → Nat} (hs : zL s_snow n a) (ha : ∀ i : Nat, i < n → a i ≤ 200) {post : (Nat → Int32) → Prop} (h : ∀ f, zL f n (fun i => if 200 < a i + r then 200 else a i + r) → post f) : wpX4_fall (nI r) s_snow (nI n) post := by
  unfold wpX4_fall
  refine pk_loop (fun k i f => wpX4_fall_L2 (nI r) (nI n) post k (nI i) f) (fun i f => zL f n (zPa i (fun i => if 200 < a i + r then 200 else a i + r) a)) n 0 s_snow (Nat.zero_le _) (zPa_0 hs) ?_ ?_
  · intro k f h1
    exact br_t (nI_le (Nat.le_refl _) (by omega)) (h f (zPa_n h1))
  · intro k i f hi h1 ih
    have := ha i hi
    refine br_f (nI_ge hi (by omega)) (br_f (nI_ge (b := 12) (by omega) (by omega)) ⟨vp_in_nI (by omega) (by omega), vp_in_nI (by omega) (by omega), ?_⟩)
    rw [nI_clamp (by omega), zPa_at h1 hi, nI_1, nI_add, z_cap (by omega)]
    exact ih _ (zPa_s h1 rfl)
theorem k_melt {n t : Nat} (hn : n ≤ 12) (ht : t < 2 ^ 29) {s_snow s_saltEnd : Nat → Int32} {a z : Nat → Nat} (hs : zL s_snow n a) (hz : zL s_saltEnd n z) (ha : ∀ i : Nat, i < n → a i ≤ 200) (hzt : ∀ i : Nat, i < n → z i ≤ t + 240) {post : (Nat → Int32) → Prop} (h : ∀ f, zL f n (fun i => if t < z i then a i - 3 else a i) → post f) : wpX4_melt (nI t) s_snow s_saltEnd (nI n) post := by
  unfold wpX4_melt
  refine pk_loop (fun k i f => wpX4_melt_L2 (nI t) s_saltEnd (nI n) post k (nI i) f) (fun i f => zL f n (zPa i (fun i => if t < z i then a i - 3 else a i) a)) n 0 s_snow (Nat.zero_le _) (zPa_0 hs) ?_ ?_
  · intro k f h1
    exact br_t (nI_le (Nat.le_refl _) (by omega)) (h f (zPa_n h1))
  · intro k i f hi h1 ih
    have := ha i hi
    have hzi := hzt i hi
    refine br_f (nI_ge hi (by omega)) (br_f (nI_ge (b := 12) (by omega) (by omega)) ⟨vp_in_nI (by omega) (by omega), ?_⟩)
    rw [nI_clamp (by omega), zg hz i hi, nI_1, zPa_at h1 hi]
    by_cases e : t < z i
    · refine br_f (nI_ge e (by omega)) ⟨vp_in_nI (by omega) (by omega), vp_in_nI (by omega) (by omega), ?_⟩
      have ev : (if nI (a i) - 3 < 0 then (0 : Int32) else nI (a i) - 3) = nI (a i - 3) := by
        by_cases e2 : a i < 3
        · rw [show a i - 3 = 0 by omega]
          exact if_pos (pk_sneg (b := 3) (by omega) e2)
        · rw [show nI (a i) - 3 = nI (a i - 3) from pk_sub (b := 3) (by omega)]
          exact if_neg (nI_pos (by omega))
      rw [ev]
      exact ih _ (zPa_s h1 (if_pos e).symm)
    · exact br_t (nI_le (by omega) (by omega)) (ih _ (zPa_k h1 (if_neg e).symm))
/-- the lesser of two, as Math.min writes it -/
theorem z_min {a b : Nat} (ha : a < 2 ^ 31) (hb : b < 2 ^ 31) : (if nI b < nI a then nI b else nI a) = nI (if a < b then a else b) := by
  by_cases e : b < a
  · rw [if_pos (nI_lt e ha), if_neg (by omega)]
  · rw [if_neg (nI_nlt (by omega) hb)]
    by_cases e2 : a < b
    · rw [if_pos e2]
    · rw [if_neg e2, show a = b by omega]
/-- what leaves street i -/
def zlw (a : Nat → Nat) (w i : Nat) : Nat := if w < a i / 4 then w else a i / 4
theorem k_drift {n w : Nat} (hn : n ≤ 12) (hw : w ≤ 9) {s_snow : Nat → Int32} {a : Nat → Nat} (hs : zL s_snow n a) (ha : ∀ i : Nat, i < n → a i ≤ 200) {post : (Nat → Int32) → Prop}
    (h : ∀ f, zL f n (fun i => if 1 < n then (if 200 < a i - zlw a w i + zlw a w (zpv n i) then 200 else a i - zlw a w i + zlw a w (zpv n i)) else a i) → post f) : wpX4_drift (nI w) s_snow (nI n) post := by
  unfold wpX4_drift
  have hdv : ∀ i : Nat, i < n → nI (a i) / 4 = nI (a i / 4) := fun i hi => pk_div (d := 4) (by have := ha i hi; omega) (by omega) (by omega)
  have hlw : ∀ i : Nat, i < n → (if nI (a i / 4) < nI w then nI (a i / 4) else nI w) = nI (zlw a w i) := fun i hi => z_min (by omega) (by have := ha i hi; omega)
  have hle : ∀ i : Nat, i < n → zlw a w i ≤ a i := fun i hi => by unfold zlw; split <;> omega
  by_cases e1 : 1 < n
  · have en : nI n - 1 = nI (n - 1) := pk_sub (b := 1) (by omega)
    refine br_f (nI_nlt (b := 2) (by omega) (by omega)) ?_
    rw [en]
    refine k_hasI hn (by omega) (br_n (by decide) ⟨vp_in_nI (by omega) (by omega), ?_⟩)
    rw [nI_clamp (by omega), zg hs (n - 1) (by omega), hdv _ (by omega), hlw _ (by omega)]
    refine pk_loop (fun k i (v : Int32 × (Nat → Int32)) => wpX4_drift_L42 (nI w) (nI n) post k v.1 (nI i) v.2) (fun i v => v.1 = nI (zlw a w (zpv n i)) ∧ zL v.2 n (zPa i (fun i => if 200 < a i - zlw a w i + zlw a w (zpv n i) then 200 else a i - zlw a w i + zlw a w (zpv n i)) a)) n 0 (_, s_snow) (Nat.zero_le _) ⟨rfl, zPa_0 hs⟩ ?_ ?_
    · rintro k ⟨x, f⟩ ⟨-, h1⟩
      refine br_t (nI_le (Nat.le_refl _) (by omega)) (h f (fun j hj => ?_))
      dsimp only at h1
      rw [zPa_n h1 j hj]
      dsimp only
      rw [if_pos e1]
    · rintro k i ⟨x, f⟩ hi ⟨h0, h1⟩ ih
      dsimp only at h0 h1
      subst h0
      have hai := ha i hi
      have hli := hle i hi
      have hap : zlw a w (zpv n i) ≤ 200 := by
        have q : zpv n i < n := by unfold zpv; split <;> omega
        have := hle _ q
        have := ha _ q
        omega
      show wpX4_drift_L42 (nI w) (nI n) post (k + 1) _ (nI i) f
      refine br_f (nI_ge hi (by omega)) (br_f (nI_ge (b := 12) (by omega) (by omega)) ⟨vp_in_nI (by omega) (by omega), vp_in_nI (by omega) (by omega), vp_in_nI (by omega) (by omega), ?_⟩)
      rw [nI_clamp (by omega), zPa_at h1 hi, nI_1, hdv i hi, hlw i hi, pk_sub hli, nI_add, z_cap (by omega)]
      refine ih (_, _) ⟨?_, zPa_s h1 rfl⟩
      rw [show zpv n (i + 1) = i by unfold zpv; rw [if_neg (by omega)]; omega]
      rfl
  · refine br_t (nI_lt (b := 2) (by omega) (by omega)) (h s_snow (fun j hj => ?_))
    rw [zg hs j hj]
    dsimp only
    rw [if_neg e1]
theorem k_complain {n : Nat} (hn : n ≤ 12) {s_kind s_snow s_complained : Nat → Int32} {k d o : Nat → Nat} (hk : zL s_kind n k) (hs : zL s_snow n d) (hc : zL s_complained n o) (hk9 : ∀ i : Nat, i < n → 97 ≤ k i ∧ k i ≤ 99) (hd : ∀ i : Nat, i < n → d i ≤ 200) {post : Int32 → (Nat → Int32) → Prop}
    (h : ∀ f, zL f n (fun i => o i + if zlim (k i) < d i then 1 else 0) → post (nI (zcn (fun i => zlim (k i) < d i) n)) f) : wpX4_complain s_kind s_snow s_complained (nI n) post := by
  unfold wpX4_complain
  refine pk_loop (fun q i (v : Int32 × (Nat → Int32)) => wpX4_complain_L4 s_kind s_snow (nI n) post q v.1 (nI i) v.2) (fun i v => v.1 = nI (zcn (fun i => zlim (k i) < d i) i) ∧ zL v.2 n (zPa i (fun i => o i + if zlim (k i) < d i then 1 else 0) o)) n 0 (0, s_complained) (Nat.zero_le _) ⟨rfl, zPa_0 hc⟩ ?_ ?_
  · rintro q ⟨x, f⟩ ⟨h0, h1⟩
    dsimp only at h0
    subst h0
    exact br_t (nI_le (Nat.le_refl _) (by omega)) (h f (zPa_n h1))
  · rintro q i ⟨x, f⟩ hi ⟨h0, h1⟩ ih
    dsimp only at h0 h1
    subst h0
    have hki := hk9 i hi
    have hdi := hd i hi
    show wpX4_complain_L4 s_kind s_snow (nI n) post (q + 1) _ (nI i) f
    refine br_f (nI_ge hi (by omega)) (br_f (nI_ge (b := 12) (by omega) (by omega)) ?_)
    have hex : ∀ post : Int32 → Prop, post (nI (d i) - nI (zlim (k i))) → wpX4_excess (nI i) s_kind s_snow (nI n) post := by
      intro post hp
      unfold wpX4_excess
      refine k_hasI hn hi ?_
      have hin : vp_in (nI i) 12 := vp_in_nI (by omega) (by omega)
      rw [nI_clamp (by omega), zg hk i hi, zg hs i hi]
      refine br_n (by decide) ⟨hin, ?_⟩
      rcases (show k i = 97 ∨ k i = 98 ∨ k i = 99 by omega) with e | e | e <;> rw [e] at hp ⊢
      · exact br_m rfl ⟨hin, hp⟩
      · exact br_n (by decide) ⟨hin, br_m rfl ⟨hin, hp⟩⟩
      · exact br_n (by decide) ⟨hin, br_n (by decide) ⟨hin, hp⟩⟩
    refine hex _ ?_
    have hz : zlim (k i) < 2 ^ 30 := by unfold zlim; omega
    by_cases e : zlim (k i) < d i
    · refine br_f (fun q => by have := (z_sub_le (by omega) hz).mp q; omega) ⟨vp_in_nI (by omega) (by omega), vp_in_nI (by omega) (by omega), ?_⟩
      rw [nI_clamp (by omega), nI_1, nI_1, zPa_at h1 hi, nI_1]
      refine ih (_, _) ⟨?_, zPa_s h1 ?_⟩
      · show _ = nI (zcn _ i + (if _ then 1 else 0))
        rw [if_pos e]
        rfl
      · show o i + 1 = o i + (if zlim (k i) < d i then 1 else 0)
        rw [if_pos e]
    · refine br_t ((z_sub_le (by omega) hz).mpr (by omega)) ?_
      rw [nI_1]
      refine ih (_, _) ⟨?_, zPa_k h1 ?_⟩
      · show _ = nI (zcn _ i + (if _ then 1 else 0))
        rw [if_neg e, Nat.add_zero]
      · show o i = o i + (if zlim (k i) < d i then 1 else 0)
        rw [if_neg e, Nat.add_zero]
theorem k_hour {A : Nat → Nat} (hI : zI A) (hT : A 0 < 2 ^ 29) {s_kind s_snow s_saltEnd s_complained : Nat → Int32} (hk : zL s_kind (A 1) (fun i => A (12 + 7 * i))) (hs : zL s_snow (A 1) (fun i => A (14 + 7 * i))) (hz : zL s_saltEnd (A 1) (fun i => A (15 + 7 * i))) (hc : zL s_complained (A 1) (fun i => A (16 + 7 * i))) {post : Int32 → (Nat → Int32) → (Nat → Int32) → Prop}
    (h : ∀ f g, zL f (A 1) (fun i => zhour A (14 + 7 * i)) → zL g (A 1) (fun i => zhour A (16 + 7 * i)) → post (nI (zhour A 9)) f g) : wpX5_endHour (nI (A 0)) (nI (A 4)) (nI (A 5)) (nI (A 9)) s_kind s_snow s_saltEnd s_complained (nI (A 1)) post := by
  have hI1 := hI.1
  unfold wpX5_endHour
  refine k_fall hI1.1 hI1.2.2.2.1 hs (fun i hi => (hI.2.1 i hi).2.2.2.2.2.2.1) (fun f1 h1 => ?_)
  refine k_melt (a := zf1 A) hI1.1 hT h1 hz (fun i _ => zf1_le) (fun i hi => (hI.2.1 i hi).2.2.2.2.2.2.2) (fun f2 h2 => ?_)
  refine k_drift (a := zf2 A) hI1.1 hI1.2.2.2.2 h2 (fun i _ => zf2_le) (fun f3 h3 => ?_)
  have h3' : zL f3 (A 1) (zf3 A) := h3
  refine k_complain hI1.1 hk h3' hc (fun i hi => ⟨(hI.2.1 i hi).2.2.1, (hI.2.1 i hi).2.2.2.1⟩) (fun i _ => zf3_le) (fun f4 h4 => ?_)
  rw [nI_add]
  have := h f3 f4 (fun i hi => by rw [h3' i hi]; dsimp only; rw [zhour_4 hi]) (fun i hi => by rw [h4 i hi]; dsimp only; rw [zhour_6 hi]; rfl)
  rw [zhour_9] at this
  exact this

