/-! shortest distances over at most eight junctions: what they are, that they are, that three ways find them -/
def zc (p : Nat → Bool) : Nat → Nat
  | 0 => 0
  | n + 1 => zc p n + (if p n then 1 else 0)
theorem zc_le (p : Nat → Bool) : ∀ n, zc p n ≤ n
  | 0 => Nat.le_refl 0
  | n + 1 => by
    have h := zc_le p n
    unfold zc
    split <;> omega
theorem zc_sub {p q : Nat → Bool} (h : ∀ k, p k = true → q k = true) : ∀ n, zc p n ≤ zc q n
  | 0 => Nat.le_refl 0
  | n + 1 => by
    have h1 := zc_sub h n
    unfold zc
    have h2 := h n
    by_cases hp : p n = true
    · rw [if_pos hp, if_pos (h2 hp)]
      omega
    · rw [if_neg hp]
      omega
theorem zc_lt {p q : Nat → Bool} (h : ∀ k, p k = true → q k = true) {x : Nat} (hp : p x = false) (hq : q x = true) : ∀ n, x < n → zc p n + 1 ≤ zc q n
  | 0, hx => absurd hx (Nat.not_lt_zero x)
  | n + 1, hx => by
    unfold zc
    by_cases e : x = n
    · subst e
      have h1 := zc_sub h x
      rw [hp, hq]
      simp only [Bool.false_eq_true, if_false, if_true]
      omega
    · have h1 := zc_lt h hp hq n (by omega)
      have h2 := h n
      by_cases hp2 : p n = true
      · rw [if_pos hp2, if_pos (h2 hp2)]
        omega
      · rw [if_neg hp2]
        omega
theorem zc_miss {p : Nat → Bool} {x : Nat} (hp : p x = false) {n : Nat} (hx : x < n) : zc p n < n := by
  have h1 := zc_lt (p := p) (q := fun _ => true) (fun _ _ => rfl) hp rfl n hx
  have h2 := zc_le (fun _ => true) n
  omega
theorem zc_all {p : Nat → Bool} {n : Nat} (h : n ≤ zc p n) {x : Nat} (hx : x < n) : p x = true := by
  cases e : p x with
  | true => rfl
  | false => exact absurd (zc_miss e hx) (by omega)
/-- a walk from u of so many edges and such a weight -/
def zwk (e : Nat → Nat → Nat → Prop) (u : Nat) : Nat → Nat → Nat → Prop
  | 0, v, w => v = u ∧ w = 0
  | n + 1, v, w => ∃ x l, e x v l ∧ l ≤ w ∧ zwk e u n x (w - l)
/-- the edges are of streets -/
def zE (e : Nat → Nat → Nat → Prop) : Prop := (∀ x y l, e x y l → x < 8 ∧ y < 8 ∧ 1 ≤ l ∧ l ≤ 9) ∧ ∀ x y l, e x y l → e y x l
/-- D: the distances from u; 9999 where there is no path -/
def zSP (e : Nat → Nat → Nat → Prop) (u : Nat) (D : Nat → Nat) : Prop :=
  D u = 0 ∧ (∀ x y l, e x y l → D x < 9999 → D y < 9999 ∧ D y ≤ D x + l) ∧ (∀ v, v < 8 → v ≠ u → D v < 9999 → ∃ x l, e x v l ∧ D x < 9999 ∧ D v = D x + l) ∧ (∀ v, v < 8 → D v < 9999 → D v ≤ 63) ∧ ∀ v, D v ≤ 9999
/-- a chain's place: how many are nearer -/
def zr (D : Nat → Nat) (v : Nat) : Nat := zc (fun w => decide (D w < D v)) 8
theorem zr_lt {D : Nat → Nat} {x v : Nat} (h : D x < D v) (hx : x < 8) : zr D x + 1 ≤ zr D v := by
  refine zc_lt (fun k hk => ?_) (x := x) ?_ ?_ 8 hx
  · have := of_decide_eq_true hk
    exact decide_eq_true (by omega)
  · exact decide_eq_false (by omega)
  · exact decide_eq_true h
theorem zr_7 {D : Nat → Nat} {v : Nat} (hv : v < 8) : zr D v ≤ 7 := by
  have : zr D v < 8 := zc_miss (x := v) (decide_eq_false (by omega)) hv
  omega
theorem zSP_ex {e : Nat → Nat → Nat → Prop} (hE : zE e) (u : Nat) : ∃ D, zSP e u D := by
  have h1 : ∀ v : Nat, ∃ m : Nat, (∃ w n, zwk e u n v w) → (∃ n, zwk e u n v m) ∧ ∀ j, j < m → ¬ ∃ n, zwk e u n v j := by
    intro v
    by_cases h : ∃ w n, zwk e u n v w
    · obtain ⟨m, a, b⟩ := pk_least (fun w => ∃ n, zwk e u n v w) h
      exact ⟨m, fun _ => ⟨a, b⟩⟩
    · exact ⟨0, fun q => absurd q h⟩
  obtain ⟨F, hF⟩ := Classical.axiomOfChoice h1
  have h2 : ∀ v : Nat, ∃ d : Nat, ((∃ w n, zwk e u n v w) → d = F v) ∧ ((¬ ∃ w n, zwk e u n v w) → d = 9999) := by
    intro v
    by_cases h : ∃ w n, zwk e u n v w
    · exact ⟨F v, fun _ => rfl, fun q => absurd h q⟩
    · exact ⟨9999, fun q => absurd q h, fun _ => rfl⟩
  obtain ⟨D, hD⟩ := Classical.axiomOfChoice h2
  have hu0 : ∃ w n, zwk e u n u w := ⟨0, 0, rfl, rfl⟩
  have hFu : F u = 0 := by
    have := (hF u hu0).2
    by_cases h : F u = 0
    · exact h
    · exact absurd ⟨0, rfl, rfl⟩ (this 0 (by omega))
  have hstep : ∀ x y l, e x y l → (∃ w n, zwk e u n x w) → (∃ w n, zwk e u n y w) ∧ F y ≤ F x + l := by
    intro x y l he hx
    obtain ⟨⟨n, hn⟩, -⟩ := hF x hx
    have hy : zwk e u (n + 1) y (F x + l) := ⟨x, l, he, by omega, by rw [Nat.add_sub_cancel]; exact hn⟩
    refine ⟨⟨_, _, hy⟩, ?_⟩
    by_cases q : F y ≤ F x + l
    · exact q
    · exact absurd ⟨n + 1, hy⟩ ((hF y ⟨_, _, hy⟩).2 _ (by omega))
  have hback : ∀ v, v ≠ u → (∃ w n, zwk e u n v w) → ∃ x l, e x v l ∧ (∃ w n, zwk e u n x w) ∧ F v = F x + l := by
    intro v hv hr
    obtain ⟨⟨n, hn⟩, hmin⟩ := hF v hr
    cases n with
    | zero => exact absurd hn.1 hv
    | succ n =>
      obtain ⟨x, l, he, hl, hw⟩ := hn
      have hx : ∃ w n, zwk e u n x w := ⟨_, _, hw⟩
      refine ⟨x, l, he, hx, ?_⟩
      have a := (hstep x v l he hx).2
      have b : F x ≤ F v - l := by
        by_cases q : F x ≤ F v - l
        · exact q
        · exact absurd ⟨n, hw⟩ ((hF x hx).2 _ (by omega))
      omega
  have hbound : ∀ k v, F v ≤ k → (∃ w n, zwk e u n v w) → v < 8 → F v ≤ 9 * zc (fun w => @decide ((∃ w0 n, zwk e u n w w0) ∧ F w < F v) (Classical.propDecidable _)) 8 := by
    intro k
    induction k with
    | zero => intro v hv _ _; omega
    | succ k ih =>
      intro v hv hr hv8
      by_cases e0 : v = u
      · rw [e0, hFu]; omega
      · obtain ⟨x, l, he, hx, hxl⟩ := hback v e0 hr
        obtain ⟨x8, -, l1, l9⟩ := hE.1 x v l he
        have a := ih x (by omega) hx x8
        have b : zc (fun w => @decide ((∃ w0 n, zwk e u n w w0) ∧ F w < F x) (Classical.propDecidable _)) 8 + 1 ≤ zc (fun w => @decide ((∃ w0 n, zwk e u n w w0) ∧ F w < F v) (Classical.propDecidable _)) 8 := by
          refine zc_lt (fun q hq => ?_) (x := x) ?_ ?_ 8 x8
          · have hq := @of_decide_eq_true _ (Classical.propDecidable _) hq
            exact @decide_eq_true _ (Classical.propDecidable _) ⟨hq.1, by omega⟩
          · exact @decide_eq_false _ (Classical.propDecidable _) (fun q => by omega)
          · exact @decide_eq_true _ (Classical.propDecidable _) ⟨hx, by omega⟩
        omega
  have hb63 : ∀ v, v < 8 → (∃ w n, zwk e u n v w) → F v ≤ 63 := by
    intro v hv hr
    have a := hbound (F v) v (Nat.le_refl _) hr hv
    have b : zc (fun w => @decide ((∃ w0 n, zwk e u n w w0) ∧ F w < F v) (Classical.propDecidable _)) 8 < 8 := zc_miss (x := v) (@decide_eq_false _ (Classical.propDecidable _) (fun q => by omega)) hv
    omega
  have hfin : ∀ v, D v < 9999 → ∃ w n, zwk e u n v w := by
    intro v hv
    by_cases q : ∃ w n, zwk e u n v w
    · exact q
    · have := (hD v).2 q
      omega
  refine ⟨D, ?_, ?_, ?_, ?_, ?_⟩
  · rw [(hD u).1 hu0, hFu]
  · intro x y l he hx
    have rx := hfin x hx
    obtain ⟨ry, hy⟩ := hstep x y l he rx
    have := hb63 y (hE.1 x y l he).2.1 ry
    rw [(hD y).1 ry, (hD x).1 rx]
    omega
  · intro v _ hv hf
    have rv := hfin v hf
    obtain ⟨x, l, he, rx, hx⟩ := hback v hv rv
    have b1 := hb63 x (hE.1 x v l he).1 rx
    refine ⟨x, l, he, by rw [(hD x).1 rx]; omega, ?_⟩
    rw [(hD v).1 rv, (hD x).1 rx, hx]
  · intro v hv hf
    have rv := hfin v hf
    rw [(hD v).1 rv]
    exact hb63 v hv rv
  · intro v
    by_cases q : ∃ w n, zwk e u n v w
    · rw [(hD v).1 q]
      by_cases h8 : v < 8
      · have := hb63 v h8 q
        omega
      · by_cases eu : v = u
        · rw [eu, hFu]; omega
        · obtain ⟨x, l, he, -, -⟩ := hback v eu q
          have := (hE.1 x v l he).2.1
          omega
    · rw [(hD v).2 q]
      omega
/-- the distances, as a function of the edges -/
noncomputable def zds (e : Nat → Nat → Nat → Prop) (u : Nat) : Nat → Nat := @dite _ (∃ D, zSP e u D) (Classical.propDecidable _) (fun h => Classical.choose h) (fun _ _ => 0)
theorem zds_sp {e : Nat → Nat → Nat → Prop} (hE : zE e) (u : Nat) : zSP e u (zds e u) := by
  have h := zSP_ex hE u
  unfold zds
  rw [dif_pos h]
  exact Classical.choose_spec h
/-- the triangle of three junctions -/
theorem zSP_tri {e : Nat → Nat → Nat → Prop} {D : Nat → Nat → Nat} (hD : ∀ u, u < 8 → zSP e u (D u)) (hE : zE e) {i k : Nat} (hi : i < 8) (hk : k < 8) (hf : D i k < 9999) : ∀ n j, j < 8 → D k j ≤ n → D k j < 9999 → D i j < 9999 ∧ D i j ≤ D i k + D k j := by
  intro n
  induction n with
  | zero =>
    intro j hj h0 _
    by_cases e1 : j = k
    · subst e1
      exact ⟨hf, by omega⟩
    · obtain ⟨x, l, he, hx, hx2⟩ := (hD k hk).2.2.1 j hj e1 (by omega)
      have := (hE.1 x j l he).2.2.1
      omega
  | succ n ih =>
    intro j hj h0 hfj
    by_cases e1 : j = k
    · subst e1
      exact ⟨hf, by omega⟩
    · obtain ⟨x, l, he, hx, hx2⟩ := (hD k hk).2.2.1 j hj e1 hfj
      obtain ⟨x8, -, l1, -⟩ := hE.1 x j l he
      obtain ⟨a1, a2⟩ := ih x x8 (by omega) hx
      obtain ⟨b1, b2⟩ := (hD i hi).2.1 x j l he a1
      exact ⟨b1, by omega⟩
/-- walks whose inner junctions are below k -/
def zP (e : Nat → Nat → Nat → Prop) : Nat → Nat → Nat → Nat → Prop
  | 0, i, j, w => (i = j ∧ w = 0) ∨ e i j w
  | k + 1, i, j, w => zP e k i j w ∨ ∃ w1 w2, zP e k i k w1 ∧ zP e k k j w2 ∧ w = w1 + w2
theorem zP_up {e : Nat → Nat → Nat → Prop} {i j w : Nat} (h : zP e 0 i j w) : ∀ k, zP e k i j w
  | 0 => h
  | k + 1 => Or.inl (zP_up h k)
theorem zP_two {e : Nat → Nat → Nat → Prop} : ∀ (k m : Nat), m < k → ∀ i j w1 w2, zP e k i m w1 → zP e k m j w2 → ∃ w, w ≤ w1 + w2 ∧ zP e k i j w
  | 0, m, hm => absurd hm (Nat.not_lt_zero m)
  | k + 1, m, hm => by
    intro i j w1 w2 h1 h2
    by_cases em : m = k
    · subst em
      obtain ⟨a, ha, pa⟩ : ∃ a, a ≤ w1 ∧ zP e m i m a := by
        rcases h1 with h | ⟨a, b, pa, pb, rfl⟩
        · exact ⟨w1, Nat.le_refl _, h⟩
        · exact ⟨a, by omega, pa⟩
      obtain ⟨b, hb, pb⟩ : ∃ b, b ≤ w2 ∧ zP e m m j b := by
        rcases h2 with h | ⟨a, b, pa, pb, rfl⟩
        · exact ⟨w2, Nat.le_refl _, h⟩
        · exact ⟨b, by omega, pb⟩
      exact ⟨a + b, by omega, Or.inr ⟨a, b, pa, pb, rfl⟩⟩
    · have ih := zP_two (e := e) k m (by omega)
      rcases h1 with h1 | ⟨a, b, pa, pb, rfl⟩
      · rcases h2 with h2 | ⟨c, d, pc, pd, rfl⟩
        · obtain ⟨w, hw, pw⟩ := ih i j w1 w2 h1 h2
          exact ⟨w, hw, Or.inl pw⟩
        · obtain ⟨w, hw, pw⟩ := ih i k w1 c h1 pc
          exact ⟨w + d, by omega, Or.inr ⟨w, d, pw, pd, rfl⟩⟩
      · rcases h2 with h2 | ⟨c, d, pc, pd, rfl⟩
        · obtain ⟨w, hw, pw⟩ := ih k j b w2 pb h2
          exact ⟨a + w, by omega, Or.inr ⟨a, w, pa, pw, rfl⟩⟩
        · exact ⟨a + d, by omega, Or.inr ⟨a, d, pa, pd, rfl⟩⟩
theorem zP_all {e : Nat → Nat → Nat → Prop} {D : Nat → Nat} (hE : zE e) {i : Nat} (hD : zSP e i D) : ∀ n j, j < 8 → D j ≤ n → D j < 9999 → ∃ w, w ≤ D j ∧ zP e 8 i j w := by
  intro n
  induction n with
  | zero =>
    intro j hj h0 _
    by_cases e1 : j = i
    · subst e1
      exact ⟨0, Nat.zero_le _, zP_up (Or.inl ⟨rfl, rfl⟩) 8⟩
    · obtain ⟨x, l, he, hx, hx2⟩ := hD.2.2.1 j hj e1 (by omega)
      have := (hE.1 x j l he).2.2.1
      omega
  | succ n ih =>
    intro j hj h0 hf
    by_cases e1 : j = i
    · subst e1
      exact ⟨0, Nat.zero_le _, zP_up (Or.inl ⟨rfl, rfl⟩) 8⟩
    · obtain ⟨x, l, he, hx, hx2⟩ := hD.2.2.1 j hj e1 hf
      obtain ⟨x8, -, l1, -⟩ := hE.1 x j l he
      obtain ⟨w, hw, pw⟩ := ih x x8 (by omega) hx
      obtain ⟨w', hw', pw'⟩ := zP_two 8 x x8 i j w l pw (zP_up (Or.inr he) 8)
      exact ⟨w', by omega, pw'⟩
/-! the search that settles the nearest: its state d (what is known), b (what is settled) -/
def zDj (e : Nat → Nat → Nat → Prop) (u : Nat) (D d : Nat → Nat) (b : Nat → Bool) : Prop :=
  d u = 0 ∧ (∀ v, v < 8 → D v ≤ d v ∧ d v ≤ 9999) ∧ (∀ v, v < 8 → b v = true → d v = D v ∧ D v < 9999) ∧ ∀ x y l, e x y l → b x = true → d y ≤ D x + l
theorem zDj_some {e : Nat → Nat → Nat → Prop} {u : Nat} {D d : Nat → Nat} {b : Nat → Bool} (hE : zE e) (hD : zSP e u D) (h : zDj e u D d b) : ∀ n v, v < 8 → D v ≤ n → D v < 9999 → b v = false → ∃ x, x < 8 ∧ b x = false ∧ d x = D x ∧ D x ≤ D v := by
  intro n
  induction n with
  | zero =>
    intro v hv h0 hf hb
    by_cases e1 : v = u
    · subst e1
      exact ⟨v, hv, hb, by rw [h.1, hD.1], Nat.le_refl _⟩
    · obtain ⟨x, l, he, hx, hx2⟩ := hD.2.2.1 v hv e1 hf
      have := (hE.1 x v l he).2.2.1
      omega
  | succ n ih =>
    intro v hv h0 hf hb
    by_cases e1 : v = u
    · subst e1
      exact ⟨v, hv, hb, by rw [h.1, hD.1], Nat.le_refl _⟩
    · obtain ⟨x, l, he, hx, hx2⟩ := hD.2.2.1 v hv e1 hf
      obtain ⟨x8, -, l1, -⟩ := hE.1 x v l he
      cases ebx : b x with
      | true =>
        have a := h.2.2.2 x v l he ebx
        have c := (h.2.1 v hv).1
        exact ⟨v, hv, hb, by omega, Nat.le_refl _⟩
      | false =>
        obtain ⟨y, y8, yb, yd, yD⟩ := ih x x8 (by omega) hx ebx
        exact ⟨y, y8, yb, yd, by omega⟩
/-- the nearest that isn't settled has its distance -/
theorem zDj_near {e : Nat → Nat → Nat → Prop} {u : Nat} {D d : Nat → Nat} {b : Nat → Bool} (hE : zE e) (hD : zSP e u D) (h : zDj e u D d b) {j : Nat} (hj : j < 8) (hb : b j = false) (hf : d j < 9999) (hmin : ∀ i, i < 8 → b i = false → d j ≤ d i) : d j = D j := by
  have a := (h.2.1 j hj).1
  obtain ⟨x, x8, xb, xd, xD⟩ := zDj_some hE hD h (D j) j hj (Nat.le_refl _) (by omega) hb
  have := hmin x x8 xb
  omega
/-- none is left to settle: all are known -/
theorem zDj_done {e : Nat → Nat → Nat → Prop} {u : Nat} {D d : Nat → Nat} {b : Nat → Bool} (hE : zE e) (hD : zSP e u D) (h : zDj e u D d b) (hmax : ∀ i, i < 8 → b i = false → d i = 9999) : ∀ v, v < 8 → d v = D v := by
  intro v hv
  cases eb : b v with
  | true => exact (h.2.2.1 v hv eb).1
  | false =>
    rw [hmax v hv eb]
    by_cases hf : D v < 9999
    · obtain ⟨x, x8, xb, xd, xD⟩ := zDj_some hE hD h (D v) v hv (Nat.le_refl _) hf eb
      have := hmax x x8 xb
      omega
    · have := hD.2.2.2.2 v
      omega

