/-! a plough's minute, a town's minute -/
/-- the first order is taken out of plough j's queue -/
def ztk (A : Nat → Nat) (j : Nat) : Nat → Nat := fun k =>
  if k = 97 + 9 * j then A k - 1 else if 98 + 9 * j ≤ k ∧ k < 98 + 9 * j + (A (97 + 9 * j) - 1) then A (k + 1) else if k = 98 + 9 * j + (A (97 + 9 * j) - 1) then 0 else A k
/-- the nearer end's distance -/
noncomputable def znr (A : Nat → Nat) (u i : Nat) : Nat := if zD A u (A (10 + 7 * i)) < zD A u (A (11 + 7 * i)) then zD A u (A (10 + 7 * i)) else zD A u (A (11 + 7 * i))
/-- an order of street i, begun from u by plough j -/
noncomputable def zbg (A : Nat → Nat) (j u i : Nat) : Nat → Nat :=
  if znr A u i < 9999 then zu (zu (zu A (95 + 9 * j) (2 * znr A u i + 4 * A (13 + 7 * i))) (96 + 9 * j) i) (94 + 9 * j) (if zD A u (A (10 + 7 * i)) ≤ zD A u (A (11 + 7 * i)) then A (11 + 7 * i) else A (10 + 7 * i))
  else zu A 8 (A 8 + 1)
noncomputable def zta (A : Nat → Nat) (j : Nat) : Nat → Nat := zbg (ztk A j) j (A (94 + 9 * j)) (A (98 + 9 * j))
/-- an order is begun, if one waits and the plough is idle -/
noncomputable def zb1 (A : Nat → Nat) (j : Nat) : Nat → Nat := if A (95 + 9 * j) = 0 ∧ 0 < A (97 + 9 * j) then zta A j else A
/-- street i is cleared -/
def zcl (A : Nat → Nat) (i : Nat) : Nat → Nat := zu (zu (zu A 6 (A 6 + 1)) 7 (A 7 + A (14 + 7 * i))) (14 + 7 * i) 0
/-- one of the plough's minutes passes -/
noncomputable def zwk2 (A : Nat → Nat) (j : Nat) : Nat → Nat :=
  if A (95 + 9 * j) = 0 then A else if A (95 + 9 * j) = 1 then zu (zcl (zu A (95 + 9 * j) 0) (A (96 + 9 * j))) (96 + 9 * j) 0 else zu A (95 + 9 * j) (A (95 + 9 * j) - 1)
noncomputable def zpm (A : Nat → Nat) (j : Nat) : Nat → Nat := zwk2 (zb1 A j) j
/-- the street that it clears; 99 for none -/
noncomputable def zpc (A : Nat → Nat) (j : Nat) : Nat := if zb1 A j (95 + 9 * j) = 1 then zb1 A j (96 + 9 * j) else 99
noncomputable def zps (A : Nat → Nat) : Nat → (Nat → Nat)
  | 0 => zu A 0 (A 0 + 1)
  | j + 1 => zpm (zps A j) j
noncomputable def zmin (A : Nat → Nat) : Nat → Nat := if zps A (A 2) 0 % 60 = 0 then zhour (zps A (A 2)) else zps A (A 2)
noncomputable def zit (A : Nat → Nat) : Nat → (Nat → Nat)
  | 0 => A
  | k + 1 => zmin (zit A k)
/-- how often street i is cleared by the first j ploughs -/
noncomputable def zk1 (A : Nat → Nat) (i : Nat) : Nat → Nat
  | 0 => 0
  | j + 1 => zk1 A i j + if zpc (zps A j) j = i then 1 else 0
theorem zk1_le (A : Nat → Nat) (i : Nat) : ∀ j, zk1 A i j ≤ j
  | 0 => Nat.le_refl 0
  | j + 1 => by
    have := zk1_le A i j
    unfold zk1
    split <;> omega
/-- .. in k minutes -/
noncomputable def zkk (A : Nat → Nat) (i : Nat) : Nat → Nat
  | 0 => 0
  | k + 1 => zkk A i k + zk1 (zit A k) i (A 2)
/-! what stays -/
/-- streets and ploughs are the same in number, the streets' ends, classes, lengths and salt too -/
def zsame (A B : Nat → Nat) : Prop := (∀ k : Nat, k < 6 → B k = A k) ∧ ∀ i : Nat, i < A 1 → B (10 + 7 * i) = A (10 + 7 * i) ∧ B (11 + 7 * i) = A (11 + 7 * i) ∧ B (12 + 7 * i) = A (12 + 7 * i) ∧ B (13 + 7 * i) = A (13 + 7 * i) ∧ B (15 + 7 * i) = A (15 + 7 * i)
theorem zsame_rf {A : Nat → Nat} : zsame A A := ⟨fun _ _ => rfl, fun _ _ => ⟨rfl, rfl, rfl, rfl, rfl⟩⟩
theorem zsame_tr {A B C : Nat → Nat} (h1 : zsame A B) (h2 : zsame B C) : zsame A C := by
  refine ⟨fun k hk => by rw [h2.1 k hk, h1.1 k hk], fun i hi => ?_⟩
  have a := h1.2 i hi
  have b := h2.2 i (by rw [h1.1 1 (by omega)]; exact hi)
  exact ⟨b.1.trans a.1, b.2.1.trans a.2.1, b.2.2.1.trans a.2.2.1, b.2.2.2.1.trans a.2.2.2.1, b.2.2.2.2.trans a.2.2.2.2⟩
theorem zsame_G {A B : Nat → Nat} (h : zsame A B) : zG B = zG A := zG_eq (h.1 1 (by omega)) (fun i hi => ⟨(h.2 i hi).1, (h.2 i hi).2.1, (h.2 i hi).2.2.2.1⟩)
theorem zsame_D {A B : Nat → Nat} (h : zsame A B) (u : Nat) : zD B u = zD A u := by unfold zD; rw [zsame_G h]
theorem zsame_u {A : Nat → Nat} {k v : Nat} (hk : 6 ≤ k) (hs : ∀ i : Nat, i < A 1 → k = 14 + 7 * i ∨ k = 16 + 7 * i ∨ k < 10 ∨ 10 + 7 * A 1 ≤ k) : zsame A (zu A k v) := by
  refine ⟨fun j hj => zu_n (by omega), fun i hi => ?_⟩
  have hn : ∀ c : Nat, c < 7 → c ≠ 4 → c ≠ 6 → 10 + 7 * i + c ≠ k := by
    intro c h1 h2 h3 e
    rcases hs i hi with q | q | q | q <;> omega
  have a0 := hn 0 (by omega) (by omega) (by omega)
  have a1 := hn 1 (by omega) (by omega) (by omega)
  have a2 := hn 2 (by omega) (by omega) (by omega)
  have a3 := hn 3 (by omega) (by omega) (by omega)
  have a5 := hn 5 (by omega) (by omega) (by omega)
  exact ⟨zu_n (by omega), zu_n (by omega), zu_n (by omega), zu_n (by omega), zu_n (by omega)⟩
theorem zsame_of {A B : Nat → Nat} (hA : A 1 ≤ 12) (h : ∀ k : Nat, k < 94 → ¬ (6 ≤ k ∧ k < 10) → ¬ (10 ≤ k ∧ ((k - 10) % 7 = 4 ∨ (k - 10) % 7 = 6)) → B k = A k) : zsame A B :=
  ⟨fun k hk => h k (by omega) (by omega) (by omega), fun i hi => ⟨h _ (by omega) (by omega) (by omega), h _ (by omega) (by omega) (by omega), h _ (by omega) (by omega) (by omega), h _ (by omega) (by omega) (by omega), h _ (by omega) (by omega) (by omega)⟩⟩
/-- what plough j must be -/
def zPl (A : Nat → Nat) (j : Nat) : Prop := A (94 + 9 * j) < 8 ∧ A (95 + 9 * j) ≤ 200 ∧ (0 < A (95 + 9 * j) → A (96 + 9 * j) < A 1) ∧ A (97 + 9 * j) ≤ 5 ∧ ∀ k : Nat, k < A (97 + 9 * j) → A (98 + 9 * j + k) < A 1
theorem zPl_eq {A B : Nat → Nat} {j : Nat} (h : zPl A j) (h1 : B 1 = A 1) (he : ∀ c : Nat, c < 9 → B (94 + 9 * j + c) = A (94 + 9 * j + c)) : zPl B j := by
  have e0 := he 0 (by omega)
  have e1 := he 1 (by omega)
  have e2 := he 2 (by omega)
  have e3 := he 3 (by omega)
  rw [show 94 + 9 * j + 0 = 94 + 9 * j by omega] at e0
  rw [show 94 + 9 * j + 1 = 95 + 9 * j by omega] at e1
  rw [show 94 + 9 * j + 2 = 96 + 9 * j by omega] at e2
  rw [show 94 + 9 * j + 3 = 97 + 9 * j by omega] at e3
  unfold zPl at h ⊢
  rw [e0, e1, e2, e3, h1]
  refine ⟨h.1, h.2.1, h.2.2.1, h.2.2.2.1, fun k hk => ?_⟩
  have := he (4 + k) (by omega)
  rw [show 94 + 9 * j + (4 + k) = 98 + 9 * j + k by omega] at this
  rw [this]
  exact h.2.2.2.2 k hk
theorem zI_mk {A B : Nat → Nat} (h : zI A) (h0 : ∀ k : Nat, 1 ≤ k → k < 3 → B k = A k) (h3 : B 3 ≤ 500) (h4 : B 4 ≤ 9) (h5 : B 5 ≤ 9) (hs : ∀ i : Nat, i < A 1 → B (10 + 7 * i) = A (10 + 7 * i) ∧ B (11 + 7 * i) = A (11 + 7 * i) ∧ B (12 + 7 * i) = A (12 + 7 * i) ∧ B (13 + 7 * i) = A (13 + 7 * i) ∧ B (14 + 7 * i) ≤ 200 ∧ B (15 + 7 * i) ≤ B 0 + 240)
    (hz : ∀ i k : Nat, A 1 ≤ i → i < 12 → k < 7 → B (10 + 7 * i + k) = A (10 + 7 * i + k)) (hp : ∀ j : Nat, j < A 2 → zPl B j) (hzp : ∀ j k : Nat, A 2 ≤ j → j < 4 → k < 9 → B (94 + 9 * j + k) = A (94 + 9 * j + k)) : zI B := by
  have e1 := h0 1 (by omega) (by omega)
  have e2 := h0 2 (by omega) (by omega)
  refine ⟨by rw [e1, e2]; exact ⟨h.1.1, h.1.2.1, h3, h4, h5⟩, fun i hi => ?_, fun i k h1 h2 h3 => ?_, fun i j hi hj a b => ?_, fun j hj => ?_, fun j k h1 h2 h3 => ?_⟩
  · rw [e1] at hi
    obtain ⟨a, b, c, d, e, f⟩ := hs i hi
    have g := h.2.1 i hi
    rw [a, b, c, d]
    exact ⟨g.1, g.2.1, g.2.2.1, g.2.2.2.1, g.2.2.2.2.1, g.2.2.2.2.2.1, e, f⟩
  · rw [e1] at h1
    rw [hz i k h1 h2 h3]
    exact h.2.2.1 i k h1 h2 h3
  · rw [e1] at hi hj
    rw [(hs i hi).1, (hs j hj).1] at a
    rw [(hs i hi).2.1, (hs j hj).2.1] at b
    exact h.2.2.2.1 i j hi hj a b
  · rw [e2] at hj
    exact hp j hj
  · rw [e2] at h1
    rw [hzp j k h1 h2 h3]
    exact h.2.2.2.2.2 j k h1 h2 h3
theorem zI_pl {A : Nat → Nat} (h : zI A) {j : Nat} (hj : j < A 2) : zPl A j := h.2.2.2.2.1 j hj
/-- a town with one plough's cells changed, and sums -/
theorem zI_pj {A B : Nat → Nat} (h : zI A) {j : Nat} (he : ∀ k, (k < 94 + 9 * j ∨ 103 + 9 * j ≤ k) → ¬ (6 ≤ k ∧ k < 10) → B k = A k) (hp : j < A 2 → zPl B j) (hj : j < A 2) : zI B := by
  have hA := h.1
  refine zI_mk h (fun k h1 h2 => he k (by omega) (by omega)) (by rw [he 3 (by omega) (by omega)]; exact hA.2.2.1) (by rw [he 4 (by omega) (by omega)]; exact hA.2.2.2.1) (by rw [he 5 (by omega) (by omega)]; exact hA.2.2.2.2) (fun i hi => ?_) (fun i k h1 h2 h3 => he _ (by omega) (by omega)) (fun j' hj' => ?_) (fun j' k h1 h2 h3 => he _ (by omega) (by omega))
  · have g := h.2.1 i hi
    rw [he (14 + 7 * i) (by omega) (by omega), he (15 + 7 * i) (by omega) (by omega), he 0 (by omega) (by omega)]
    exact ⟨he _ (by omega) (by omega), he _ (by omega) (by omega), he _ (by omega) (by omega), he _ (by omega) (by omega), g.2.2.2.2.2.2.1, g.2.2.2.2.2.2.2⟩
  · by_cases e : j' = j
    · rw [e]
      exact hp hj
    · exact zPl_eq (zI_pl h hj') (he 1 (by omega) (by omega)) (fun c hc => he _ (by omega) (by omega))
theorem ztk_o {A : Nat → Nat} {j k : Nat} (h5 : A (97 + 9 * j) ≤ 5) (h : k < 97 + 9 * j ∨ 103 + 9 * j ≤ k) : ztk A j k = A k := by
  unfold ztk
  by_cases e : A (97 + 9 * j) = 0
  · by_cases e2 : k = 98 + 9 * j + (A (97 + 9 * j) - 1)
    · exact absurd e2 (by omega)
    · rw [if_neg (by omega), if_neg (by omega), if_neg e2]
  · rw [if_neg (by omega), if_neg (by omega), if_neg (by omega)]
theorem ztk_n {A : Nat → Nat} {j : Nat} : ztk A j (97 + 9 * j) = A (97 + 9 * j) - 1 := by
  unfold ztk
  rw [if_pos rfl]
theorem ztk_q {A : Nat → Nat} {j k : Nat} (h : k < A (97 + 9 * j) - 1) : ztk A j (98 + 9 * j + k) = A (98 + 9 * j + (k + 1)) := by
  unfold ztk
  rw [if_neg (by omega), if_pos (by omega), show 98 + 9 * j + k + 1 = 98 + 9 * j + (k + 1) by omega]
theorem ztk_I {A : Nat → Nat} (h : zI A) {j : Nat} (hj : j < A 2) : zI (ztk A j) := by
  have hp := zI_pl h hj
  refine zI_pj h (j := j) (fun k hk _ => ztk_o hp.2.2.2.1 (by omega)) (fun _ => ?_) hj
  have e1 : ztk A j 1 = A 1 := ztk_o hp.2.2.2.1 (by omega)
  refine ⟨by rw [ztk_o hp.2.2.2.1 (by omega)]; exact hp.1, by rw [ztk_o hp.2.2.2.1 (by omega)]; exact hp.2.1, ?_, by rw [ztk_n]; have := hp.2.2.2.1; omega, fun k hk => ?_⟩
  · rw [ztk_o hp.2.2.2.1 (by omega), ztk_o hp.2.2.2.1 (by omega), e1]
    exact hp.2.2.1
  · rw [ztk_n] at hk
    rw [ztk_q hk, e1]
    exact hp.2.2.2.2 (k + 1) (by omega)
theorem ztk_same {A : Nat → Nat} (h : zI A) {j : Nat} (hj : j < A 2) : zsame A (ztk A j) := zsame_of h.1.1 (fun k hk _ _ => ztk_o (zI_pl h hj).2.2.2.1 (by omega))
theorem znr_le {A : Nat → Nat} (h : zI A) {u i : Nat} (hi : i < A 1) (hf : znr A u i < 9999) : znr A u i ≤ 63 := by
  have hs := h.2.1 i hi
  have hD := zD_sp h u
  unfold znr at hf ⊢
  by_cases e : zD A u (A (10 + 7 * i)) < zD A u (A (11 + 7 * i))
  · rw [if_pos e] at hf ⊢
    exact hD.2.2.2.1 _ (by omega) hf
  · rw [if_neg e] at hf ⊢
    exact hD.2.2.2.1 _ (by omega) hf
theorem zbg_o {A : Nat → Nat} {j u i k : Nat} (h : k < 94 + 9 * j ∨ 97 + 9 * j ≤ k) (h8 : k ≠ 8) : zbg A j u i k = A k := by
  unfold zbg
  split
  · rw [zu_n (by omega), zu_n (by omega), zu_n (by omega)]
  · rw [zu_n h8]
theorem zbg_I {A : Nat → Nat} (h : zI A) {j u i : Nat} (hj : j < A 2) (hi : i < A 1) : zI (zbg A j u i) := by
  have hp := zI_pl h hj
  have hs := h.2.1 i hi
  refine zI_pj h (j := j) (fun k hk h6 => zbg_o (by omega) (by omega)) (fun _ => ?_) hj
  unfold zbg
  by_cases e : znr A u i < 9999
  · have hn := znr_le h hi e
    rw [if_pos e]
    refine ⟨?_, ?_, fun _ => ?_, ?_, fun k hk => ?_⟩
    · rw [zu_s]
      split <;> omega
    · rw [zu_n (by omega), zu_n (by omega), zu_s]
      omega
    · rw [zu_n (by omega), zu_s, zu_n (by omega), zu_n (by omega), zu_n (by omega)]
      exact hi
    · rw [zu_n (by omega), zu_n (by omega), zu_n (by omega)]
      exact hp.2.2.2.1
    · rw [zu_n (by omega), zu_n (by omega), zu_n (by omega)] at hk
      rw [zu_n (by omega), zu_n (by omega), zu_n (by omega), zu_n (by omega), zu_n (by omega), zu_n (by omega)]
      exact hp.2.2.2.2 k hk
  · rw [if_neg e]
    exact zPl_eq hp (zu_n (by omega)) (fun c _ => zu_n (by omega))
theorem zbg_same {A : Nat → Nat} (h : zI A) {j u i : Nat} : zsame A (zbg A j u i) := zsame_of h.1.1 (fun k hk h6 _ => zbg_o (by omega) (by omega))
theorem zta_I {A : Nat → Nat} (h : zI A) {j : Nat} (hj : j < A 2) (h0 : 0 < A (97 + 9 * j)) : zI (zta A j) := by
  have hp := zI_pl h hj
  refine zbg_I (ztk_I h hj) (by rw [ztk_o hp.2.2.2.1 (by omega)]; exact hj) ?_
  rw [ztk_o hp.2.2.2.1 (by omega)]
  exact hp.2.2.2.2 0 h0
theorem zta_same {A : Nat → Nat} (h : zI A) {j : Nat} (hj : j < A 2) : zsame A (zta A j) := zsame_tr (ztk_same h hj) (zbg_same (ztk_I h hj))
theorem zb1_I {A : Nat → Nat} (h : zI A) {j : Nat} (hj : j < A 2) : zI (zb1 A j) := by
  unfold zb1
  split
  · next e => exact zta_I h hj e.2
  · exact h
theorem zb1_same {A : Nat → Nat} (h : zI A) {j : Nat} (hj : j < A 2) : zsame A (zb1 A j) := by
  unfold zb1
  split
  · exact zta_same h hj
  · exact zsame_rf
theorem zcl_I {A : Nat → Nat} (h : zI A) {i : Nat} (hi : i < A 1) : zI (zcl A i) := by
  have hA := h.1
  have he : ∀ k, ¬ (6 ≤ k ∧ k < 8) → k ≠ 14 + 7 * i → zcl A i k = A k := by
    intro k h1 h2
    unfold zcl
    rw [zu_n h2, zu_n (by omega), zu_n (by omega)]
  refine zI_mk h (fun k h1 h2 => he k (by omega) (by omega)) (by rw [he 3 (by omega) (by omega)]; exact hA.2.2.1) (by rw [he 4 (by omega) (by omega)]; exact hA.2.2.2.1) (by rw [he 5 (by omega) (by omega)]; exact hA.2.2.2.2) (fun i' hi' => ?_) (fun i' k h1 h2 h3 => he _ (by omega) (by omega)) (fun j hj => zPl_eq (zI_pl h hj) (he 1 (by omega) (by omega)) (fun c hc => he _ (by omega) (by omega))) (fun j k h1 h2 h3 => he _ (by omega) (by omega))
  have g := h.2.1 i' hi'
  refine ⟨he _ (by omega) (by omega), he _ (by omega) (by omega), he _ (by omega) (by omega), he _ (by omega) (by omega), ?_, by rw [he (15 + 7 * i') (by omega) (by omega), he 0 (by omega) (by omega)]; exact g.2.2.2.2.2.2.2⟩
  by_cases e : i' = i
  · unfold zcl
    rw [e, zu_s]
    omega
  · rw [he _ (by omega) (by omega)]
    exact g.2.2.2.2.2.2.1
theorem zcl_same {A : Nat → Nat} (h : zI A) {i : Nat} (hi : i < A 1) : zsame A (zcl A i) := by
  refine zsame_of h.1.1 (fun k hk h6 h7 => ?_)
  unfold zcl
  rw [zu_n (by omega), zu_n (by omega), zu_n (by omega)]
theorem zcl_o {A : Nat → Nat} {i k : Nat} (h : ¬ (6 ≤ k ∧ k < 8)) (h2 : k ≠ 14 + 7 * i) : zcl A i k = A k := by
  unfold zcl
  rw [zu_n h2, zu_n (by omega), zu_n (by omega)]
theorem zI_busy {A : Nat → Nat} (h : zI A) {j v : Nat} (hj : j < A 2) (hv : v ≤ A (95 + 9 * j)) : zI (zu A (95 + 9 * j) v) := by
  have hp := zI_pl h hj
  refine zI_pj h (j := j) (fun k hk _ => zu_n (by omega)) (fun _ => ?_) hj
  refine ⟨by rw [zu_n (by omega)]; exact hp.1, by rw [zu_s]; exact Nat.le_trans hv hp.2.1, fun h0 => ?_, by rw [zu_n (by omega)]; exact hp.2.2.2.1, fun k hk => ?_⟩
  · rw [zu_s] at h0
    rw [zu_n (by omega), zu_n (by omega)]
    exact hp.2.2.1 (by omega)
  · rw [zu_n (by omega)] at hk
    rw [zu_n (by omega), zu_n (by omega)]
    exact hp.2.2.2.2 k hk
theorem zI_on {A : Nat → Nat} (h : zI A) {j v : Nat} (hj : j < A 2) (hv : A (95 + 9 * j) = 0) : zI (zu A (96 + 9 * j) v) := by
  have hp := zI_pl h hj
  refine zI_pj h (j := j) (fun k hk _ => zu_n (by omega)) (fun _ => ?_) hj
  refine ⟨by rw [zu_n (by omega)]; exact hp.1, by rw [zu_n (by omega)]; exact hp.2.1, fun h0 => ?_, by rw [zu_n (by omega)]; exact hp.2.2.2.1, fun k hk => ?_⟩
  · rw [zu_n (by omega)] at h0
    omega
  · rw [zu_n (by omega)] at hk
    rw [zu_n (by omega), zu_n (by omega)]
    exact hp.2.2.2.2 k hk
theorem zwk2_I {A : Nat → Nat} (h : zI A) {j : Nat} (hj : j < A 2) : zI (zwk2 A j) := by
  have hA := h.1
  have hp := zI_pl h hj
  unfold zwk2
  by_cases e0 : A (95 + 9 * j) = 0
  · rw [if_pos e0]
    exact h
  · rw [if_neg e0]
    by_cases e1 : A (95 + 9 * j) = 1
    · rw [if_pos e1]
      have hi := hp.2.2.1 (by omega)
      have h2 := zI_busy h hj (v := 0) (by omega)
      have h3 := zcl_I h2 (i := A (96 + 9 * j)) (by rw [zu_n (by omega)]; exact hi)
      refine zI_on h3 ?_ ?_
      · rw [zcl_o (by omega) (by omega), zu_n (by omega)]
        try dsimp only
        exact hj
      · rw [zcl_o (by omega) (by omega), zu_s]
        try dsimp only
    · rw [if_neg e1]
      exact zI_busy h hj (by omega)
theorem zwk2_same {A : Nat → Nat} (h : zI A) {j : Nat} (hj : j < A 2) : zsame A (zwk2 A j) := by
  have hp := zI_pl h hj
  have hA := h.1
  unfold zwk2
  by_cases e0 : A (95 + 9 * j) = 0
  · rw [if_pos e0]
    exact zsame_rf
  · rw [if_neg e0]
    by_cases e1 : A (95 + 9 * j) = 1
    · rw [if_pos e1]
      have hi := hp.2.2.1 (by omega)
      refine zsame_of hA.1 (fun k hk h6 h7 => ?_)
      rw [zu_n (by omega), zcl_o (by omega) (by omega), zu_n (by omega)]
      try dsimp only
    · rw [if_neg e1]
      exact zsame_of hA.1 (fun k hk h6 h7 => zu_n (by omega))
theorem zpm_I {A : Nat → Nat} (h : zI A) {j : Nat} (hj : j < A 2) : zI (zpm A j) := zwk2_I (zb1_I h hj) (by rw [(zb1_same h hj).1 2 (by omega)]; exact hj)
theorem zpm_same {A : Nat → Nat} (h : zI A) {j : Nat} (hj : j < A 2) : zsame A (zpm A j) := zsame_tr (zb1_same h hj) (zwk2_same (zb1_I h hj) (by rw [(zb1_same h hj).1 2 (by omega)]; exact hj))
theorem zI_time {A : Nat → Nat} (h : zI A) : zI (zu A 0 (A 0 + 1)) := by
  have hA := h.1
  refine zI_mk h (fun k h1 h2 => zu_n (by omega)) (by rw [zu_n (by omega)]; exact hA.2.2.1) (by rw [zu_n (by omega)]; exact hA.2.2.2.1) (by rw [zu_n (by omega)]; exact hA.2.2.2.2) (fun i hi => ?_) (fun i k h1 h2 h3 => zu_n (by omega)) (fun j hj => zPl_eq (zI_pl h hj) (zu_n (by omega)) (fun c hc => zu_n (by omega))) (fun j k h1 h2 h3 => zu_n (by omega))
  have g := h.2.1 i hi
  rw [zu_n (show 10 + 7 * i ≠ 0 by omega), zu_n (show 11 + 7 * i ≠ 0 by omega), zu_n (show 12 + 7 * i ≠ 0 by omega), zu_n (show 13 + 7 * i ≠ 0 by omega), zu_n (show 14 + 7 * i ≠ 0 by omega), zu_n (show 15 + 7 * i ≠ 0 by omega), zu_s]
  exact ⟨rfl, rfl, rfl, rfl, g.2.2.2.2.2.2.1, by omega⟩
theorem zhour_I {A : Nat → Nat} (h : zI A) : zI (zhour A) := by
  have hA := h.1
  refine zI_mk h (fun k h1 h2 => zhour_lo (by omega)) (by rw [zhour_lo (by omega)]; exact hA.2.2.1) (by rw [zhour_lo (by omega)]; exact hA.2.2.2.1) (by rw [zhour_lo (by omega)]; exact hA.2.2.2.2) (fun i hi => ?_) (fun i k h1 h2 h3 => zhour_hi (by omega)) (fun j hj => zPl_eq (zI_pl h hj) (zhour_lo (by omega)) (fun c hc => zhour_hi (by omega))) (fun j k h1 h2 h3 => zhour_hi (by omega))
  have g := h.2.1 i hi
  have a0 := zhour_c (A := A) (i := i) (c := 0) (by omega) (by omega) (by omega)
  have a1 := zhour_c (A := A) (i := i) (c := 1) (by omega) (by omega) (by omega)
  have a2 := zhour_c (A := A) (i := i) (c := 2) (by omega) (by omega) (by omega)
  have a3 := zhour_c (A := A) (i := i) (c := 3) (by omega) (by omega) (by omega)
  have a5 := zhour_c (A := A) (i := i) (c := 5) (by omega) (by omega) (by omega)
  rw [show 10 + 7 * i + 0 = 10 + 7 * i by omega] at a0
  rw [show 10 + 7 * i + 1 = 11 + 7 * i by omega] at a1
  rw [show 10 + 7 * i + 2 = 12 + 7 * i by omega] at a2
  rw [show 10 + 7 * i + 3 = 13 + 7 * i by omega] at a3
  rw [show 10 + 7 * i + 5 = 15 + 7 * i by omega] at a5
  rw [a0, a1, a2, a3, a5, zhour_4 hi, zhour_lo (by omega)]
  exact ⟨rfl, rfl, rfl, rfl, zf3_le, g.2.2.2.2.2.2.2⟩
theorem zhour_same {A : Nat → Nat} (h : zI A) : zsame A (zhour A) := by
  refine zsame_of h.1.1 (fun k hk h6 h7 => ?_)
  by_cases e : k < 10
  · exact zhour_lo (by omega)
  · have := zhour_c (A := A) (i := (k - 10) / 7) (c := (k - 10) % 7) (by omega) (by omega) (by omega)
    rw [show 10 + 7 * ((k - 10) / 7) + (k - 10) % 7 = k by omega] at this
    exact this
/-- as zsame, but for the time -/
def zsm0 (A B : Nat → Nat) : Prop := (∀ k : Nat, 1 ≤ k → k < 6 → B k = A k) ∧ ∀ i : Nat, i < A 1 → B (10 + 7 * i) = A (10 + 7 * i) ∧ B (11 + 7 * i) = A (11 + 7 * i) ∧ B (12 + 7 * i) = A (12 + 7 * i) ∧ B (13 + 7 * i) = A (13 + 7 * i) ∧ B (15 + 7 * i) = A (15 + 7 * i)
theorem zsm0_tr {A B C : Nat → Nat} (h1 : zsm0 A B) (h2 : zsm0 B C) : zsm0 A C := by
  refine ⟨fun k hk hk2 => by rw [h2.1 k hk hk2, h1.1 k hk hk2], fun i hi => ?_⟩
  have a := h1.2 i hi
  have b := h2.2 i (by rw [h1.1 1 (by omega) (by omega)]; exact hi)
  exact ⟨b.1.trans a.1, b.2.1.trans a.2.1, b.2.2.1.trans a.2.2.1, b.2.2.2.1.trans a.2.2.2.1, b.2.2.2.2.trans a.2.2.2.2⟩
theorem zsame.of0 {A B : Nat → Nat} (h : zsame A B) : zsm0 A B := ⟨fun k _ hk => h.1 k hk, h.2⟩
theorem zps_I {A : Nat → Nat} (h : zI A) : ∀ j : Nat, j ≤ A 2 → zI (zps A j) ∧ zsame (zu A 0 (A 0 + 1)) (zps A j)
  | 0, _ => ⟨zI_time h, zsame_rf⟩
  | j + 1, hj => by
    obtain ⟨a, b⟩ := zps_I h j (by omega)
    have e : zps A j 2 = A 2 := by rw [b.1 2 (by omega), zu_n (by omega)]
    exact ⟨zpm_I a (by omega), zsame_tr b (zpm_same a (by omega))⟩
theorem zps_0 {A : Nat → Nat} (h : zI A) {j : Nat} (hj : j ≤ A 2) : zps A j 0 = A 0 + 1 := by
  rw [(zps_I h j hj).2.1 0 (by omega), zu_s]
theorem zps_k {A : Nat → Nat} (h : zI A) {j k : Nat} (hj : j ≤ A 2) (h1 : 1 ≤ k) (h6 : k < 6) : zps A j k = A k := by
  rw [(zps_I h j hj).2.1 k h6, zu_n (by omega)]
theorem zps_s {A : Nat → Nat} (h : zI A) {j : Nat} (hj : j ≤ A 2) : zsm0 A (zps A j) := by
  have a := (zps_I h j hj).2
  refine ⟨fun k h1 h6 => zps_k h hj h1 h6, fun i hi => ?_⟩
  have b := a.2 i (by rw [zu_n (by omega)]; exact hi)
  rw [zu_n (show 10 + 7 * i ≠ 0 by omega), zu_n (show 11 + 7 * i ≠ 0 by omega), zu_n (show 12 + 7 * i ≠ 0 by omega), zu_n (show 13 + 7 * i ≠ 0 by omega), zu_n (show 15 + 7 * i ≠ 0 by omega)] at b
  exact b
theorem zmin_I {A : Nat → Nat} (h : zI A) : zI (zmin A) ∧ zsm0 A (zmin A) ∧ zmin A 0 = A 0 + 1 := by
  obtain ⟨a, b⟩ := zps_I h (A 2) (Nat.le_refl _)
  have s := zps_s h (Nat.le_refl (A 2))
  unfold zmin
  split
  · exact ⟨zhour_I a, zsm0_tr s (zhour_same a).of0, by rw [zhour_lo (by omega), zps_0 h (Nat.le_refl _)]⟩
  · exact ⟨a, s, zps_0 h (Nat.le_refl _)⟩
theorem zit_I {A : Nat → Nat} (h : zI A) : ∀ k, zI (zit A k) ∧ zsm0 A (zit A k) ∧ zit A k 0 = A 0 + k
  | 0 => ⟨h, ⟨fun _ _ _ => rfl, fun _ _ => ⟨rfl, rfl, rfl, rfl, rfl⟩⟩, rfl⟩
  | k + 1 => by
    obtain ⟨a, b, c⟩ := zit_I h k
    obtain ⟨d, e, f⟩ := zmin_I a
    exact ⟨d, zsm0_tr b e, by show zmin (zit A k) 0 = _; rw [f, c]; omega⟩
theorem zkk_le {A : Nat → Nat} (h : zI A) (i : Nat) : ∀ k, zkk A i k ≤ 4 * k
  | 0 => Nat.le_refl 0
  | k + 1 => by
    have a := zkk_le h i k
    have b := zk1_le (zit A k) i (A 2)
    have c := h.1.2.1
    unfold zkk
    omega

