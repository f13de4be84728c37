/-! scripts: what a form fits; the class's reader -/
def zsg (n : Nat) (x : Nat → Nat) (a : Nat) : Nat := if a < n then x a else 0
def zfm (v : Nat) : List Nat := if v = 0 then [115, 116, 114, 101, 101, 116, 32, 35, 32, 35, 32, 64, 35] else if v = 1 then [112, 108, 111, 117, 103, 104, 32, 35] else if v = 2 then [111, 114, 100, 101, 114, 32, 35, 32, 37] else if v = 3 then [99, 97, 110, 99, 101, 108, 32, 35] else if v = 4 then [115, 97, 108, 116, 32, 37] else if v = 5 then [108, 111, 97, 100, 32, 37] else if v = 6 then [115, 110, 111, 119, 32, 35] else if v = 7 then [119, 105, 110, 100, 32, 35] else [119, 97, 105, 116, 32, 37]
/-- does the sign c fit w -/
def zok (w c : Nat) : Bool := if w = 35 ∨ w = 37 then decide (48 ≤ c ∧ c ≤ 57) else if w = 64 then decide (97 ≤ c ∧ c ≤ 99) else decide (c = w)
/-- how many signs fit a form -/
def zft (sg : Nat → Nat) : List Nat → Nat → Nat
  | [], _ => 0
  | w :: r, a => if zok w (sg a) = true then zft sg r (a + 1) + 1 else 0
theorem zft_le (sg : Nat → Nat) : ∀ (L : List Nat) (a : Nat), zft sg L a ≤ L.length
  | [], _ => Nat.le_refl 0
  | w :: r, a => by
    have := zft_le sg r (a + 1)
    unfold zft
    simp only [List.length_cons]
    split <;> omega
theorem zft_y {sg : Nat → Nat} {w a : Nat} {r : List Nat} (h : zok w (sg a) = true) : zft sg (w :: r) a = zft sg r (a + 1) + 1 := if_pos h
theorem zft_n {sg : Nat → Nat} {w a : Nat} {r : List Nat} (h : ¬ zok w (sg a) = true) : zft sg (w :: r) a = 0 := if_neg h
/-- a number of so many digits at most, from v on: the number and where it ends -/
def zrn (sg : Nat → Nat) : Nat → Nat → Nat → Nat × Nat
  | 0, v, a => (v, a)
  | k + 1, v, a => if 48 ≤ sg a ∧ sg a ≤ 57 then zrn sg k (10 * v + (sg a - 48)) (a + 1) else (v, a)
theorem zrn_y {sg : Nat → Nat} {k v a : Nat} (h : 48 ≤ sg a ∧ sg a ≤ 57) : zrn sg (k + 1) v a = zrn sg k (10 * v + (sg a - 48)) (a + 1) := if_pos h
theorem zrn_n {sg : Nat → Nat} {k v a : Nat} (h : ¬ (48 ≤ sg a ∧ sg a ≤ 57)) : zrn sg (k + 1) v a = (v, a) := if_neg h
theorem zrn_le {sg : Nat → Nat} : ∀ k v a : Nat, a ≤ (zrn sg k v a).2 ∧ (zrn sg k v a).2 ≤ a + k ∧ (zrn sg k v a).1 + 1 ≤ 10 ^ k * (v + 1)
  | 0, v, a => by
    show a ≤ a ∧ a ≤ a + 0 ∧ v + 1 ≤ 1 * (v + 1)
    omega
  | k + 1, v, a => by
    by_cases h : 48 ≤ sg a ∧ sg a ≤ 57
    · rw [zrn_y h]
      obtain ⟨p, q, r⟩ := @zrn_le sg k (10 * v + (sg a - 48)) (a + 1)
      refine ⟨by omega, by omega, Nat.le_trans r ?_⟩
      rw [Nat.pow_succ, Nat.mul_assoc]
      exact Nat.mul_le_mul_left _ (by omega)
    · rw [zrn_n h]
      refine ⟨Nat.le_refl _, by omega, ?_⟩
      show v + 1 ≤ 10 ^ (k + 1) * (v + 1)
      exact Nat.le_mul_of_pos_left _ (Nat.pow_pos (by omega))
/-- a form's values: how many, which, where the reader stands -/
def zrv (sg : Nat → Nat) : List Nat → Nat → Nat → (Nat → Nat) → Nat × (Nat → Nat) × Nat
  | [], f, p, vals => (f, vals, p)
  | w :: r, f, p, vals => if 4 ≤ f then (f, vals, p) else if w = 64 then zrv sg r (f + 1) (p + 1) (zu vals f (sg p)) else if w = 35 then zrv sg r (f + 1) (p + 1) (zu vals f (sg p - 48)) else if w = 37 then (f + 1, zu vals f (zrn sg 3 0 p).1, (zrn sg 3 0 p).2) else zrv sg r f (p + 1) vals
/-- the text of a script -/
def zSX (n cap : Nat) (b : Nat → Int32) (x : Nat → Nat) : Prop := n ≤ 60 ∧ n ≤ cap ∧ cap < 1000 ∧ ∀ i : Nat, i < n → 32 ≤ x i ∧ x i ≤ 126 ∧ b i = nI (x i)
theorem zsg_lt {n cap : Nat} {b : Nat → Int32} {x : Nat → Nat} (h : zSX n cap b x) (a : Nat) : zsg n x a < 128 := by
  unfold zsg
  split
  · have := h.2.2.2 a (by assumption)
    omega
  · omega
theorem k_sign {n cap : Nat} {b : Nat → Int32} {x : Nat → Nat} (h : zSX n cap b x) {a : Nat} (ha : a < 2 ^ 30) {post : Int32 → Prop} (hp : post (nI (zsg n x a))) : wpX3_signAt (nI a) (nI n) cap b post := by
  have h60 := h.1
  unfold wpX3_signAt
  refine br_f (nI_pos (by omega)) ?_
  show (nI n ≤ nI a → post 0) ∧ _
  by_cases e : a < n
  · have hx := h.2.2.2 a e
    rw [show zsg n x a = x a from if_pos e] at hp
    exact br_f (nI_ge e (by omega)) (k_charAt h.2.1 e (by have := h.2.2.1; omega) hx.2.2 (by omega) ⟨(pk_charN (by omega)).1, hp⟩)
  · rw [show zsg n x a = 0 from if_neg e] at hp
    exact br_t (nI_le (by omega) (by omega)) hp
theorem k_dig {c : Nat} (hc : c < 128) {post : Int32 → Prop} (h1 : 48 ≤ c ∧ c ≤ 57 → post 1) (h0 : ¬ (48 ≤ c ∧ c ≤ 57) → post 0) : wpX3_isDigit (nI c) post := by
  unfold wpX3_isDigit
  by_cases e1 : c < 48
  · exact br_t (nI_lt (b := 48) e1 (by omega)) (h0 (by omega))
  · refine br_f (nI_nlt (b := 48) (by omega) (by omega)) ?_
    by_cases e2 : 57 < c
    · exact br_t (nI_lt (a := 57) e2 (by omega)) (h0 (by omega))
    · exact br_f (nI_nlt (a := 57) (by omega) (by omega)) (h1 (by omega))
theorem k_fitsw {w c : Nat} (hw : w < 128) (hc : c < 128) {post : Int32 → Prop} (h1 : zok w c = true → post 1) (h0 : ¬ zok w c = true → post 0) : wpX3_fits (nI w) (nI c) post := by
  unfold wpX3_fits
  unfold zok at h1 h0
  have q : ∀ k : Nat, k < 128 → (nI w = nI k ↔ w = k) := fun k hk => nI_eq (by omega) (by omega)
  by_cases e35 : w = 35
  · subst e35
    refine br_t rfl (k_dig hc (fun d => ⟨m_nb1, h1 (decide_eq_true d)⟩) (fun d => ⟨m_nb0, h0 (fun z => d (of_decide_eq_true z))⟩))
  · refine br_f (fun z => e35 ((q 35 (by omega)).mp z)) ?_
    by_cases e37 : w = 37
    · subst e37
      exact br_m rfl (k_dig hc (fun d => ⟨m_nb1, h1 (decide_eq_true d)⟩) (fun d => ⟨m_nb0, h0 (fun z => d (of_decide_eq_true z))⟩))
    · refine br_n (fun z => e37 ((q 37 (by omega)).mp z)) ?_
      rw [if_neg (by omega)] at h1 h0
      by_cases e64 : w = 64
      · subst e64
        rw [if_pos rfl] at h1 h0
        refine br_m rfl ?_
        by_cases e1 : c < 97
        · exact br_t (nI_lt (b := 97) e1 (by omega)) (h0 (fun z => by have := of_decide_eq_true z; omega))
        · refine br_f (nI_nlt (b := 97) (by omega) (by omega)) ?_
          by_cases e2 : 99 < c
          · exact br_t (nI_lt (a := 99) e2 (by omega)) (h0 (fun z => by have := of_decide_eq_true z; omega))
          · exact br_f (nI_nlt (a := 99) (by omega) (by omega)) (h1 (decide_eq_true (by omega)))
      · rw [if_neg e64] at h1 h0
        refine br_n (fun z => e64 ((q 64 (by omega)).mp z)) ?_
        by_cases ec : c = w
        · exact br_m (by rw [ec]) (h1 (decide_eq_true ec))
        · exact br_n (fun z => ec ((nI_eq (by omega) (by omega)).mp z)) (h0 (fun z => ec (of_decide_eq_true z)))
/-- a form's sign -/
theorem k_fch {L : List Nat} {txt : Nat → Int32} (ht : ∀ j : Nat, j < L.length → txt j = nI (L.getD j 0)) (hw : ∀ j : Nat, j < L.length → L.getD j 0 < 128) (h13 : L.length < 2 ^ 30) {j : Nat} (hj : j < L.length) {post : Int32 → Prop} (h : post (nI (L.getD j 0))) : wpJ0_charAt_5068e (nI j) L.length txt post := by
  have hc := hw j hj
  unfold wpJ0_charAt_5068e wpJ0_isLatin1_aae02 wpJ1_charAt_3b067 wpJ0_checkIndex_df160 wpJ3_checkIndex_8e157
  refine br_f (by decide) (br_f (nI_pos (by omega)) (br_t (nI_lt hj (by omega)) ?_))
  rw [nI_clamp (by omega), ht j hj, z_bc _ hc]
  exact ⟨vp_in_nI hj (by omega), (pk_charN (by omega)).1, (pk_charN (by omega)).1, h⟩
theorem k_flen {n : Nat} {post : Int32 → Prop} (h : post (nI n)) : wpJ0_length_8abf5 n post := by
  unfold wpJ0_length_8abf5 wpJ0_coder_7d493
  dsimp only
  rw [sb_shr0]
  exact h
theorem k_fit {n cap : Nat} {b : Nat → Int32} {x : Nat → Nat} (hx : zSX n cap b x) {L : List Nat} {txt : Nat → Int32} (ht : ∀ j : Nat, j < L.length → txt j = nI (L.getD j 0)) (hw : ∀ j : Nat, j < L.length → L.getD j 0 < 128) (h13 : L.length < 1000) {a : Nat} (ha : a < 1000) {post : Int32 → Prop} (h : post (nI (zft (zsg n x) L a))) : wpX3_fittingSigns L.length txt (nI a) (nI n) cap b post := by
  unfold wpX3_fittingSigns
  refine pk_loop (fun k i (_ : Unit) => wpX3_fittingSigns_L2 L.length txt (nI a) (nI n) cap b post k (nI i)) (fun i _ => zft (zsg n x) L a = zft (zsg n x) (L.drop i) (a + i) + i) L.length 0 () (Nat.zero_le _) rfl ?_ ?_
  · rintro k _ e
    refine k_flen (br_t (nI_le (Nat.le_refl _) (by omega)) (k_flen ?_))
    rw [List.drop_length] at e
    rw [show L.length = zft (zsg n x) L a by rw [e]; exact (Nat.zero_add _).symm]
    exact h
  · rintro k i _ hi e ih
    have hd : L.drop i = L.getD i 0 :: L.drop (i + 1) := by
      rw [List.drop_eq_getElem_cons hi]
      simp [List.getD_eq_getElem?_getD, hi]
    rw [hd] at e
    refine k_flen (br_f (nI_ge hi (by omega)) (k_fch ht hw (by omega) hi ?_))
    rw [nI_add]
    refine k_sign hx (by omega) (k_fitsw (hw i hi) (zsg_lt hx _) (fun y => br_n (by decide) ?_) (fun y => br_m rfl ?_))
    · rw [nI_1]
      refine ih () ?_
      rw [e, zft_y y]
      show zft (zsg n x) (L.drop (i + 1)) (a + i + 1) + 1 + i = zft (zsg n x) (L.drop (i + 1)) (a + (i + 1)) + (i + 1)
      rw [show a + i + 1 = a + (i + 1) by omega]
      omega
    · rw [zft_n y, Nat.zero_add] at e
      rw [e] at h
      exact h
theorem k_num3 {n cap : Nat} {b : Nat → Int32} {x : Nat → Nat} (hx : zSX n cap b x) {post : Int32 → Int32 → Prop} : ∀ (k v a : Nat), k ≤ 3 → ((k = 3 → v = 0) ∧ (k = 2 → v ≤ 9) ∧ (k = 1 → v ≤ 99) ∧ (k = 0 → v ≤ 999)) → a + k ≤ 1000 → post (nI (zrn (zsg n x) k v a).1) (nI (zrn (zsg n x) k v a).2) → wpX3_readNumber_L4 (nI n) cap b post (k + 1) (nI v) (nI (3 - k)) (nI a)
  | 0, v, a, _, hv, ha, h => br_t (nI_le (a := 3) (b := 3) (by omega) (by omega)) h
  | k + 1, v, a, hk, hv, ha, h => by
    have hc := zsg_lt hx a
    refine br_f (nI_ge (b := 3) (by omega) (by omega)) (k_sign hx (by omega) (k_dig hc (fun d => br_f (by decide) (k_sign hx (by omega) ?_)) (fun d => br_t rfl ?_)))
    · rw [zrn_y d] at h
      rw [show (10 : Int32) = nI 10 from rfl, pk_mul, nI_add, show nI (v * 10 + zsg n x a) - 48 = nI (v * 10 + zsg n x a - 48) from pk_sub (b := 48) (by omega), nI_1, nI_1, show v * 10 + zsg n x a - 48 = 10 * v + (zsg n x a - 48) by omega, show 3 - (k + 1) + 1 = 3 - k by omega]
      exact k_num3 hx k _ _ (by omega) (by omega) (by omega) h
    · rw [zrn_n d] at h
      exact h
theorem k_rnum {n cap : Nat} {b : Nat → Int32} {x : Nat → Nat} (hx : zSX n cap b x) {a : Nat} (ha : a + 3 ≤ 1000) {post : Int32 → Int32 → Prop} (h : post (nI (zrn (zsg n x) 3 0 a).1) (nI (zrn (zsg n x) 3 0 a).2)) : wpX3_readNumber (nI a) (nI n) cap b post := by
  unfold wpX3_readNumber
  exact ⟨4, k_num3 hx 3 0 a (Nat.le_refl _) (by omega) ha h⟩
theorem k_rv {n cap : Nat} {b : Nat → Int32} {x : Nat → Nat} (hx : zSX n cap b x) {L : List Nat} {txt : Nat → Int32} (ht : ∀ j : Nat, j < L.length → txt j = nI (L.getD j 0)) (hw : ∀ j : Nat, j < L.length → L.getD j 0 < 128) (h13 : L.length < 100) {post : (Nat → Int32) → Int32 → Prop} : ∀ (R : List Nat) (i f p : Nat) (vals : Nat → Nat) (cv : Nat → Int32), L.drop i = R → i + R.length = L.length → (∀ q : Nat, q < f → cv q = nI (vals q)) → f ≤ 4 → zft (zsg n x) R p = R.length → p + R.length ≤ 900 →
    (∀ cv', (∀ q : Nat, q < (zrv (zsg n x) R f p vals).1 → cv' q = nI ((zrv (zsg n x) R f p vals).2.1 q)) → post cv' (nI (zrv (zsg n x) R f p vals).2.2)) → wpX3_readValues_L4 L.length txt (nI n) cap b post (R.length + 1) (nI f) (nI i) cv (nI p)
  | [], i, f, p, vals, cv, hd, hi, hcv, hf, hz, hp, h => by
    refine k_flen (br_t (nI_le ?_ ?_) (h cv hcv))
    · simp only [List.length_nil] at hi
      omega
    · simp only [List.length_nil] at hi
      omega
  | w :: r, i, f, p, vals, cv, hd, hi, hcv, hf, hz, hp, h => by
    simp only [List.length_cons] at hi hz hp
    have hil : i < L.length := by omega
    have hw0 : L.getD i 0 = w := by
      have e := List.drop_eq_getElem_cons hil
      rw [hd] at e
      have e1 := (List.cons.inj e).1
      rw [e1]
      simp [List.getD_eq_getElem?_getD, hil]
    have hr : L.drop (i + 1) = r := by
      have e := List.drop_eq_getElem_cons hil
      rw [hd] at e
      exact (List.cons.inj e).2.symm
    have hok : zok w (zsg n x p) = true := by
      by_cases y : zok w (zsg n x p) = true
      · exact y
      · rw [zft_n y] at hz
        omega
    have hz' : zft (zsg n x) r (p + 1) = r.length := by
      rw [zft_y hok] at hz
      omega
    have hc := zsg_lt hx p
    have hw1 : w < 128 := by rw [← hw0]; exact hw i hil
    have q : ∀ k : Nat, k < 128 → (nI w = nI k ↔ w = k) := fun k hk => nI_eq (by omega) (by omega)
    have hup : ∀ v : Nat, ∀ q : Nat, q < f + 1 → upd cv f (nI v) q = nI (zu vals f v q) := by
      intro v q hq
      by_cases e : q = f
      · rw [e, pk_us, zu_s]
      · rw [pk_un e, zu_n e]
        exact hcv q (by omega)
    refine k_flen (br_f (nI_ge hil (by omega)) ?_)
    unfold zrv at h
    by_cases h4 : 4 ≤ f
    · rw [if_pos h4] at h
      exact br_t (nI_le (a := 4) h4 (by omega)) (h cv hcv)
    · rw [if_neg h4] at h
      refine br_f (nI_ge (b := 4) (by omega) (by omega)) (k_fch ht hw (by omega) hil ?_)
      rw [hw0]
      by_cases e64 : w = 64
      · rw [if_pos e64] at h
        refine br_m (by rw [e64]; rfl) (k_sign hx (by omega) ⟨vp_in_nI (by omega) (by omega), ?_⟩)
        rw [nI_clamp (by omega), nI_1, nI_1, nI_1]
        exact k_rv hx ht hw h13 r (i + 1) (f + 1) (p + 1) _ _ hr (by omega) (hup _) (by omega) hz' (by omega) h
      · rw [if_neg e64] at h
        refine br_n (fun z => e64 ((q 64 (by omega)).mp z)) ?_
        by_cases e35 : w = 35
        · rw [if_pos e35] at h
          have h48 : 48 ≤ zsg n x p := by
            subst e35
            have := of_decide_eq_true (show decide (48 ≤ zsg n x p ∧ zsg n x p ≤ 57) = true from hok)
            omega
          refine br_m (by rw [e35]; rfl) (k_sign hx (by omega) ⟨vp_in_nI (by omega) (by omega), ?_⟩)
          rw [nI_clamp (by omega), nI_1, nI_1, nI_1, show nI (zsg n x p) - 48 = nI (zsg n x p - 48) from pk_sub (b := 48) h48]
          exact k_rv hx ht hw h13 r (i + 1) (f + 1) (p + 1) _ _ hr (by omega) (hup _) (by omega) hz' (by omega) h
        · rw [if_neg e35] at h
          refine br_n (fun z => e35 ((q 35 (by omega)).mp z)) ?_
          by_cases e37 : w = 37
          · rw [if_pos e37] at h
            refine br_m (by rw [e37]; rfl) (k_rnum hx (by omega) ⟨vp_in_nI (by omega) (by omega), ?_⟩)
            rw [nI_clamp (by omega)]
            exact h _ (hup _)
          · rw [if_neg e37] at h
            refine br_n (fun z => e37 ((q 37 (by omega)).mp z)) ?_
            rw [nI_1, nI_1]
            exact k_rv hx ht hw h13 r (i + 1) f (p + 1) _ _ hr (by omega) hcv hf hz' (by omega) h
/-! a command -/
/-- the form v fits at a -/
def zmt (sg : Nat → Nat) (a v : Nat) : Prop := zft sg (zfm v) a = (zfm v).length
/-- as far as the best of the first v forms fits -/
def zbs (sg : Nat → Nat) (a : Nat) : Nat → Nat
  | 0 => 0
  | v + 1 => if zbs sg a v < zft sg (zfm v) a then zft sg (zfm v) a else zbs sg a v
theorem zfm_len : ∀ v : Nat, v < 9 → gLen.getD v 0 = (zfm v).length := by decide
theorem zfm_13 : ∀ v : Nat, v < 9 → (zfm v).length ≤ 13 := by decide
theorem zfm_txt : ∀ v : Nat, v < 9 → ∀ j : Nat, j < 13 → j < (zfm v).length → (gByt.getD v []).getD j 0 = nI ((zfm v).getD j 0) := by decide +kernel
theorem zfm_w : ∀ v : Nat, v < 9 → ∀ j : Nat, j < 13 → (zfm v).getD j 0 < 128 := by decide +kernel
theorem k_form {v : Nat} (hv : v < 9) {post : Nat → Prop} (h : post v) : wpX3_formOf (nI v) post := by
  unfold wpX3_formOf
  have q : ∀ k : Nat, k < 9 → (nI v = nI k ↔ v = k) := fun k hk => nI_eq (by omega) (by omega)
  have go : ∀ (k : Nat) (X : Prop), k < 9 → (v ≠ k → X) → (nI v = nI k → post k) ∧ (¬ nI v = nI k → X) := fun k X hk hX => ⟨fun e => by rw [← (q k hk).mp e]; exact h, fun e => hX (fun z => e ((q k hk).mpr z))⟩
  refine go 0 _ (by omega) (fun n0 => go 1 _ (by omega) (fun n1 => go 2 _ (by omega) (fun n2 => go 3 _ (by omega) (fun n3 => go 4 _ (by omega) (fun n4 => go 5 _ (by omega) (fun n5 => go 6 _ (by omega) (fun n6 => go 7 _ (by omega) (fun n7 => ?_))))))))
  rw [show (8 : Nat) = v by omega]
  exact h
theorem zbs_le {sg : Nat → Nat} {a : Nat} : ∀ v : Nat, v ≤ 9 → zbs sg a v ≤ 13
  | 0, _ => by show 0 ≤ 13; omega
  | v + 1, hv => by
    have i := zbs_le (sg := sg) (a := a) v (by omega)
    have j := zft_le sg (zfm v) a
    have k := zfm_13 v (by omega)
    unfold zbs
    split <;> omega
/-- where the reader stands behind a command, and its values -/
def zcv (sg : Nat → Nat) (a v : Nat) : Nat × (Nat → Nat) × Nat := zrv sg (zfm v) 0 a (fun _ => 0)
theorem k_cmd {n cap : Nat} {b : Nat → Int32} {x : Nat → Nat} (hx : zSX n cap b x) {a : Nat} (ha : a ≤ 800) {cv : Nat → Int32} {verb : Int32} {post : Int32 → (Nat → Int32) → Int32 → Int32 → Prop}
    (h1 : ∀ v : Nat, v < 9 → zmt (zsg n x) a v → (∀ u : Nat, u < v → ¬ zmt (zsg n x) a u) → ∀ cv', (∀ q : Nat, q < (zcv (zsg n x) a v).1 → cv' q = nI ((zcv (zsg n x) a v).2.1 q)) → post 1 cv' (nI (zcv (zsg n x) a v).2.2) (nI v))
    (h0 : (∀ u : Nat, u < 9 → ¬ zmt (zsg n x) a u) → post 0 cv (nI (a + zbs (zsg n x) a 9)) verb) : wpX3_readCommand cv (nI a) verb (nI n) cap b post := by
  unfold wpX3_readCommand
  refine pk_loop (fun k v (y : Int32) => wpX3_readCommand_L4 (nI n) cap b cv (nI a) verb post k y (nI v)) (fun v y => y = nI (zbs (zsg n x) a v) ∧ ∀ u : Nat, u < v → ¬ zmt (zsg n x) a u) 9 0 0 (Nat.zero_le _) ⟨rfl, fun u hu => absurd hu (Nat.not_lt_zero u)⟩ ?_ ?_
  · rintro k y ⟨rfl, hu⟩
    refine br_t (nI_lt (a := 8) (by omega) (by omega)) ?_
    rw [nI_add]
    exact h0 hu
  · rintro k v y hv ⟨rfl, hu⟩ ih
    have h13 := zfm_13 v hv
    have hl := zfm_len v hv
    have ht : ∀ j : Nat, j < (zfm v).length → (fun j => (gByt.getD v []).getD j 0) j = nI ((zfm v).getD j 0) := fun j hj => zfm_txt v hv j (by omega) hj
    have hw : ∀ j : Nat, j < (zfm v).length → (zfm v).getD j 0 < 128 := fun j hj => zfm_w v hv j (by omega)
    refine br_f (nI_nlt (a := 8) (by omega) (by omega)) (k_form hv ?_)
    rw [hl]
    refine k_fit hx ht hw (by omega) (by omega) (k_flen ?_)
    have hle := zft_le (zsg n x) (zfm v) a
    have hb := zbs_le (sg := zsg n x) (a := a) v (by omega)
    by_cases e : zft (zsg n x) (zfm v) a = (zfm v).length
    · refine br_m (by rw [e]) ?_
      unfold wpX3_readValues
      exact ⟨_, k_rv hx ht hw (by omega) (zfm v) 0 0 a (fun _ => 0) cv rfl (by omega) (fun q hq => absurd hq (Nat.not_lt_zero q)) (by omega) e (by omega) (h1 v hv e hu)⟩
    · refine br_n (fun z => e ((nI_eq (by omega) (by omega)).mp z)) ?_
      have ev : (if nI (zbs (zsg n x) a v) < nI (zft (zsg n x) (zfm v) a) then nI (zft (zsg n x) (zfm v) a) else nI (zbs (zsg n x) a v)) = nI (zbs (zsg n x) a (v + 1)) := by
        have ez : zbs (zsg n x) a (v + 1) = if zbs (zsg n x) a v < zft (zsg n x) (zfm v) a then zft (zsg n x) (zfm v) a else zbs (zsg n x) a v := rfl
        by_cases q : zbs (zsg n x) a v < zft (zsg n x) (zfm v) a
        · rw [ez, if_pos q]
          exact if_pos (nI_lt q (by omega))
        · rw [ez, if_neg q]
          exact if_neg (nI_nlt (by omega) (by omega))
      rw [ev, nI_1]
      refine ih _ ⟨rfl, fun u hu2 => ?_⟩
      by_cases eu : u = v
      · rw [eu]; exact e
      · exact hu u (by omega)

