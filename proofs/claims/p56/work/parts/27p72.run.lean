/-! scripts: the commands, one after another -/
abbrev zCP : Type := Int32 → TT → zX → (Nat → Int32) → Int32 → Int32 → Prop
abbrev zMP : Type := Int32 → Int32 → (Nat → Int32) → zY → Prop
/-- a loop of the reference over its commands -/
def zVs (N : Nat) (does : Nat → (Nat → Int32) → zY → zMP → Prop) (V : Nat → Nat → (Nat → Int32) → zY → Prop) (FLm : Nat → Int32 → (Nat → Int32) → zY → Prop) : Prop :=
  ∀ n k m y, k < N → does k m y (fun r thr m' y' => (thr = 0 → V n (k + 1) m' (r, y'.2)) ∧ (¬ thr = 0 → FLm k r m' y')) → V (n + 1) k m y
/-- from m0 the reference gets to its k-th command, in the town A -/
def zRc (N : Nat) (does : Nat → (Nat → Int32) → zY → zMP → Prop) (m0 : Nat → Int32) (y0 : zY) (k : Nat) (A : Nat → Nat) : Prop :=
  ∀ V FLm, zVs N does V FLm → ∀ n, (∀ m' y', zM A m' → V n k m' y') → V (n + k) 0 m0 y0
/-- there it refuses -/
def zFc (N : Nat) (does : Nat → (Nat → Int32) → zY → zMP → Prop) (m0 : Nat → Int32) (y0 : zY) (j : Nat) : Prop :=
  ∀ V FLm, zVs N does V FLm → (∀ r m' y', FLm j r m' y') → ∀ n, V (n + 1 + j) 0 m0 y0
theorem zRc_0 {N : Nat} {does : Nat → (Nat → Int32) → zY → zMP → Prop} {m0 : Nat → Int32} {y0 : zY} {A : Nat → Nat} (h : zM A m0) : zRc N does m0 y0 0 A :=
  fun _ _ _ _ hV => hV m0 y0 h
theorem k_runL {N : Nat} {sg : Nat → Nat} {does : Nat → (Nat → Int32) → zY → zMP → Prop} {obey : TT → zX → (Nat → Int32) → Int32 → Int32 → zCP → Prop} {m0 : Nat → Int32} {y0 : zY} {A0 : Nat → Nat}
    (hst : ∀ k, k < N → ∀ A u x cv vb, zTT A u → A 0 + 600 < 2 ^ 29 → zSt A u x (nI (zpt sg (k + 1))) (obey u x cv (nI (zpt sg k)) vb) (does k))
    {W : Nat → Nat → TT → zX → (Nat → Int32) → Int32 → Int32 → Prop} {EX : TT → zX → (Nat → Int32) → Int32 → Int32 → Prop} {FL : Nat → TT → zX → (Nat → Int32) → Int32 → Int32 → Prop}
    (hx : ∀ n u x cv at' vb, EX u x cv at' vb → W (n + 1) N u x cv at' vb)
    (hs : ∀ n k u x cv at' vb, k < N → obey u x cv at' vb (fun r u' x' cv' at2 vb' => (0 ≤ r → W n (k + 1) u' x' cv' at2 vb') ∧ (¬ 0 ≤ r → FL k u' x' cv' at2 vb')) → W (n + 1) k u x cv at' vb) :
    ∀ (d k : Nat), k + d = N → ∀ A u x cv vb, zTT A u → A 0 + 600 * d < 2 ^ 29 → zRc N does m0 y0 k A → zGo A0 A →
      (∀ B u' x' cv' vb', zTT B u' → B 0 ≤ A 0 + 600 * d → zRc N does m0 y0 N B → zGo A0 B → EX u' x' cv' (nI (zpt sg N)) vb') →
      (∀ j u' x' cv' at' vb', j < N → zFc N does m0 y0 j → FL j u' x' cv' at' vb') → W (d + 1) k u x cv (nI (zpt sg k)) vb := by
  intro d
  induction d with
  | zero =>
    intro k hk A u x cv vb hT hA hR hG hE hF
    have ek : k = N := by omega
    subst ek
    exact hx _ _ _ _ _ _ (hE A u x cv vb hT (by omega) hR hG)
  | succ d ih =>
    intro k hk A u x cv vb hT hA hR hG hE hF
    have kN : k < N := by omega
    refine hs _ k _ _ _ _ _ kN ?_
    rw [Nat.mul_succ] at hA hE
    have h29 : A 0 + 600 < 2 ^ 29 := Nat.lt_of_le_of_lt (Nat.add_le_add_left (Nat.le_add_left 600 (600 * d)) (A 0)) hA
    have z := hst k kN A u x cv vb hT h29
    unfold zSt at z
    rcases z with ⟨c, t, hc, ht, h1, h2⟩ | ⟨B, r, hr, hg, hB, h1, h2⟩
    · refine h1 _ (fun cv' vb' => br_f (Int32.not_le.mpr hc) (hF k u x cv' _ vb' kN ?_))
      intro V FLm hV hFL n
      refine hR V FLm hV (n + 1) (fun m' y' hM => hV n k m' y' kN (h2 m' y' hM _ (br_f ht (hFL _ _ _))))
    · refine h1 _ (fun u' x' cv' vb' hT' => br_t (nI_pos' (by omega)) (ih (k + 1) (by omega) B u' x' cv' vb' hT' (by omega) ?_ (zGo_tr hG hg.2) (fun B' u2 x2 cv2 vb2 hT2 hB2 hR2 hG2 => hE B' u2 x2 cv2 vb2 hT2 (by omega) hR2 hG2) hF))
      intro V FLm hV n hn
      have q := hR V FLm hV (n + 1) (fun m' y' hM => hV n k m' y' kN (h2 m' y' hM _ (fun m2 y2 hM2 => br_t rfl (hn m2 _ hM2))))
      rw [show n + 1 + k = n + (k + 1) by omega] at q
      exact q

