/-! scripts: one form at most -/
theorem z1_i {sg : Nat → Nat} {a w : Nat} {r : List Nat} (h : 1 ≤ zft sg (w :: r) a) (hl : zli w) : sg a = w := by
  by_cases e : sg a = w
  · exact e
  · rw [zft_n (zok_no hl e)] at h
    omega
theorem z2_i {sg : Nat → Nat} {a w u : Nat} {r : List Nat} (h : 2 ≤ zft sg (w :: u :: r) a) (hl : zli w) (hu : zli u) : sg a = w ∧ sg (a + 1) = u := by
  have e := z1_i (Nat.le_trans (by omega) h) hl
  rw [zft_y (zok_y hl e)] at h
  exact ⟨e, z1_i (r := r) (by omega) hu⟩
theorem zrho_2 {sg : Nat → Nat} {a v : Nat} (hv : v < 9) (h : 2 ≤ zft sg (zfm v) a) : zrho sg a = v := by
  have go : ∀ (v w u : Nat) (r : List Nat), zfm v = w :: u :: r → zli w → zli u → 2 ≤ zft sg (zfm v) a → sg a = w ∧ sg (a + 1) = u := fun v w u r e hl hu h => z2_i (by rw [← e]; exact h) hl hu
  rcases (show v = 0 ∨ v = 1 ∨ v = 2 ∨ v = 3 ∨ v = 4 ∨ v = 5 ∨ v = 6 ∨ v = 7 ∨ v = 8 by omega) with e | e | e | e | e | e | e | e | e <;> subst e
  · have q := go 0 115 116 _ rfl (by decide) (by decide) h
    unfold zrho; rw [q.1, q.2]; rfl
  · have q := go 1 112 108 _ rfl (by decide) (by decide) h
    unfold zrho; rw [q.1]; rfl
  · have q := go 2 111 114 _ rfl (by decide) (by decide) h
    unfold zrho; rw [q.1]; rfl
  · have q := go 3 99 97 _ rfl (by decide) (by decide) h
    unfold zrho; rw [q.1]; rfl
  · have q := go 4 115 97 _ rfl (by decide) (by decide) h
    unfold zrho; rw [q.1, q.2]; rfl
  · have q := go 5 108 111 _ rfl (by decide) (by decide) h
    unfold zrho; rw [q.1]; rfl
  · have q := go 6 115 110 _ rfl (by decide) (by decide) h
    unfold zrho; rw [q.1, q.2]; rfl
  · have q := go 7 119 105 _ rfl (by decide) (by decide) h
    unfold zrho; rw [q.1, q.2]; rfl
  · have q := go 8 119 97 _ rfl (by decide) (by decide) h
    unfold zrho; rw [q.1, q.2]; rfl
theorem zfm_6 : ∀ v : Nat, v < 9 → 6 ≤ (zfm v).length := by decide
theorem zrho_m {sg : Nat → Nat} {a v : Nat} (hv : v < 9) (h : zmt sg a v) : zrho sg a = v := by
  have := zfm_6 v hv
  refine zrho_2 hv ?_
  have e : zft sg (zfm v) a = (zfm v).length := h
  omega
theorem zrho_1 {sg : Nat → Nat} {a : Nat} (h : zrho sg a < 9) : 1 ≤ zft sg (zfm (zrho sg a)) a := by
  have go : ∀ (v w : Nat) (r : List Nat), zfm v = w :: r → zli w → sg a = w → 1 ≤ zft sg (zfm v) a := by
    intro v w r e hl hs
    rw [e, zft_y (zok_y hl hs)]
    omega
  unfold zrho at h ⊢
  by_cases c115 : sg a = 115
  · rw [if_pos c115]
    by_cases e : sg (a + 1) = 116
    · rw [if_pos e]; exact go 0 115 _ rfl (by decide) c115
    rw [if_neg e]
    by_cases e : sg (a + 1) = 97
    · rw [if_pos e]; exact go 4 115 _ rfl (by decide) c115
    rw [if_neg e]
    exact go 6 115 _ rfl (by decide) c115
  rw [if_neg c115] at h ⊢
  by_cases c119 : sg a = 119
  · rw [if_pos c119]
    by_cases e : sg (a + 1) = 105
    · rw [if_pos e]; exact go 7 119 _ rfl (by decide) c119
    rw [if_neg e]
    exact go 8 119 _ rfl (by decide) c119
  rw [if_neg c119] at h ⊢
  by_cases c112 : sg a = 112
  · rw [if_pos c112]; exact go 1 112 _ rfl (by decide) c112
  rw [if_neg c112] at h ⊢
  by_cases c111 : sg a = 111
  · rw [if_pos c111]; exact go 2 111 _ rfl (by decide) c111
  rw [if_neg c111] at h ⊢
  by_cases c99 : sg a = 99
  · rw [if_pos c99]; exact go 3 99 _ rfl (by decide) c99
  rw [if_neg c99] at h ⊢
  by_cases c108 : sg a = 108
  · rw [if_pos c108]; exact go 5 108 _ rfl (by decide) c108
  rw [if_neg c108] at h
  omega
theorem zfm_c : ∀ v : Nat, v < 9 → (zfm v).head? = some 115 ∨ (zfm v).head? = some 119 ∨ (zfm v).head? = some 112 ∨ (zfm v).head? = some 111 ∨ (zfm v).head? = some 99 ∨ (zfm v).head? = some 108 := by decide
theorem zfm_fs {sg : Nat → Nat} {a v : Nat} (hv : v < 9) (h : 1 ≤ zft sg (zfm v) a) : zfs (sg a) := by
  have q := zfm_c v hv
  generalize zfm v = L at *
  cases L with
  | nil => exact absurd h (by show ¬ 1 ≤ 0; omega)
  | cons w r =>
    have q' : w = 115 ∨ w = 119 ∨ w = 112 ∨ w = 111 ∨ w = 99 ∨ w = 108 := by simpa using q
    have e := z1_i h ⟨by omega, by omega, by omega⟩
    rw [e]
    exact q'
theorem zbs_m {sg : Nat → Nat} {a m : Nat} : ∀ v : Nat, (∀ u : Nat, u < v → zft sg (zfm u) a ≤ m) → zbs sg a v ≤ m
  | 0, _ => Nat.zero_le _
  | v + 1, h => by
    have i := zbs_m (m := m) v (fun u hu => h u (by omega))
    have j := h v (by omega)
    unfold zbs
    split <;> omega
theorem zbs_g {sg : Nat → Nat} {a u : Nat} : ∀ v : Nat, u < v → zft sg (zfm u) a ≤ zbs sg a v
  | 0, h => absurd h (Nat.not_lt_zero u)
  | v + 1, h => by
    have ez : zbs sg a (v + 1) = if zbs sg a v < zft sg (zfm v) a then zft sg (zfm v) a else zbs sg a v := rfl
    rw [ez]
    by_cases e : u = v
    · rw [e]
      split <;> omega
    · have := zbs_g (sg := sg) (a := a) v (show u < v by omega)
      split <;> omega
theorem zbs_9 {sg : Nat → Nat} {a : Nat} : a + zbs sg a 9 = zfp sg a := by
  unfold zfp
  by_cases h : zrho sg a < 9
  · rw [if_pos h]
    have g := zbs_g (sg := sg) (a := a) 9 h
    have m := zbs_m (sg := sg) (a := a) (m := zft sg (zfm (zrho sg a)) a) 9 (fun u hu => by
      by_cases e2 : 2 ≤ zft sg (zfm u) a
      · rw [zrho_2 hu e2]
        exact Nat.le_refl _
      · have := zrho_1 h
        omega)
    omega
  · rw [if_neg h]
    have m := zbs_m (sg := sg) (a := a) (m := 0) 9 (fun u hu => by
      by_cases e2 : 1 ≤ zft sg (zfm u) a
      · exact absurd (zrho_f.mpr (zfm_fs hu e2)) h
      · omega)
    omega
/-- the values of the command at a -/
def zvl (sg : Nat → Nat) (a : Nat) : Nat × (Nat → Nat) × Nat := zcv sg a (zrho sg a)
theorem k_ccmd {n cap : Nat} {b : Nat → Int32} {x : Nat → Nat} (hx : zSX n cap b x) {a : Nat} (ha : a ≤ 800) {cv : Nat → Int32} {verb : Int32} {post : Int32 → (Nat → Int32) → Int32 → Int32 → Prop}
    (h1 : zgd (zsg n x) a → ∀ cv', (∀ q : Nat, q < (zvl (zsg n x) a).1 → cv' q = nI ((zvl (zsg n x) a).2.1 q)) → post 1 cv' (nI (zvl (zsg n x) a).2.2) (nI (zrho (zsg n x) a)))
    (h0 : ¬ zgd (zsg n x) a → post 0 cv (nI (zfp (zsg n x) a)) verb) : wpX3_readCommand cv (nI a) verb (nI n) cap b post := by
  refine k_cmd hx ha (fun v hv hm _ cv' hcv => ?_) (fun hn => ?_)
  · have e := zrho_m hv hm
    unfold zvl at h1
    rw [e] at h1
    exact h1 ⟨by omega, by rw [e]; exact hm⟩ cv' hcv
  · rw [zbs_9]
    exact h0 (fun z => hn _ z.1 z.2)
/-! where it ends -/
theorem zrn_n2 {n : Nat} {x : Nat → Nat} : ∀ k v a : Nat, a ≤ n → (zrn (zsg n x) k v a).2 ≤ n
  | 0, v, a, h => h
  | k + 1, v, a, h => by
    by_cases d : 48 ≤ zsg n x a ∧ zsg n x a ≤ 57
    · rw [zrn_y d]
      refine zrn_n2 k _ (a + 1) ?_
      by_cases e : a < n
      · omega
      · rw [show zsg n x a = 0 from if_neg e] at d
        omega
    · rw [zrn_n d]
      exact h
theorem zok_0 {w : Nat} (hw : 32 ≤ w) : ¬ zok w 0 = true := by
  unfold zok
  repeat' split
  all_goals exact fun z => by have := of_decide_eq_true z; omega
theorem zrv_e {n : Nat} {x : Nat → Nat} : ∀ (L : List Nat) (f p : Nat) (vals : Nat → Nat), (∀ w : Nat, w ∈ L → 32 ≤ w) → L.length = L.length → zft (zsg n x) L p = L.length → p ≤ n → (zrv (zsg n x) L f p vals).2.2 ≤ n
  | [], f, p, vals, _, _, _, h => h
  | w :: r, f, p, vals, hw, _, hz, h => by
    have hok : zok w (zsg n x p) = true := by
      by_cases y : zok w (zsg n x p) = true
      · exact y
      · rw [zft_n y] at hz
        simp only [List.length_cons] at hz
        omega
    have hp : p < n := by
      by_cases e : p < n
      · exact e
      · rw [show zsg n x p = 0 from if_neg e] at hok
        exact absurd hok (zok_0 (hw w (List.mem_cons_self ..)))
    have hz' : zft (zsg n x) r (p + 1) = r.length := by
      rw [zft_y hok] at hz
      simp only [List.length_cons] at hz
      omega
    have hw' : ∀ u : Nat, u ∈ r → 32 ≤ u := fun u hu => hw u (List.mem_cons_of_mem _ hu)
    unfold zrv
    split
    · exact h
    · split
      · exact zrv_e r _ _ _ hw' rfl hz' hp
      · split
        · exact zrv_e r _ _ _ hw' rfl hz' hp
        · split
          · exact zrn_n2 3 0 p h
          · exact zrv_e r _ _ _ hw' rfl hz' hp

