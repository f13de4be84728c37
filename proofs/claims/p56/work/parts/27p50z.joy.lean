/-! complaints add up; a busy plough stands at an end of its street -/
def zJ (A : Nat → Nat) : Prop := zsum (fun i => A (16 + 7 * i)) (A 1) = A 9 ∧ ∀ j : Nat, j < A 2 → 0 < A (95 + 9 * j) → A (94 + 9 * j) = A (10 + 7 * A (96 + 9 * j)) ∨ A (94 + 9 * j) = A (11 + 7 * A (96 + 9 * j))
/-- what the next town keeps -/
def zGo (A B : Nat → Nat) : Prop := A 1 ≤ B 1 ∧ A 2 ≤ B 2 ∧ (zJ A → zJ B)
theorem zGo_rf {A : Nat → Nat} : zGo A A := ⟨Nat.le_refl _, Nat.le_refl _, fun h => h⟩
theorem zGo_tr {A B C : Nat → Nat} (h1 : zGo A B) (h2 : zGo B C) : zGo A C := ⟨Nat.le_trans h1.1 h2.1, Nat.le_trans h1.2.1 h2.2.1, fun h => h2.2.2 (h1.2.2 h)⟩
theorem zsum_c {f g : Nat → Nat} : ∀ n : Nat, (∀ i : Nat, i < n → f i = g i) → zsum f n = zsum g n
  | 0, _ => rfl
  | n + 1, h => by
    unfold zsum
    rw [zsum_c n (fun i hi => h i (by omega)), h n (by omega)]
theorem zsum_cn {f : Nat → Nat} {p : Nat → Prop} [DecidablePred p] : ∀ n : Nat, zsum (fun i => f i + (if p i then 1 else 0)) n = zsum f n + zcn p n
  | 0 => rfl
  | n + 1 => by
    unfold zsum zcn
    rw [zsum_cn n]
    omega
theorem zGo_of {A B : Nat → Nat} (h1 : B 1 = A 1) (h2 : B 2 = A 2) (h9 : zsum (fun i => A (16 + 7 * i)) (A 1) = A 9 → zsum (fun i => B (16 + 7 * i)) (A 1) = B 9) (hs : ∀ i : Nat, i < A 1 → B (10 + 7 * i) = A (10 + 7 * i) ∧ B (11 + 7 * i) = A (11 + 7 * i))
    (hp : ∀ j : Nat, j < A 2 → 0 < B (95 + 9 * j) → (B (94 + 9 * j) = A (94 + 9 * j) ∧ B (96 + 9 * j) = A (96 + 9 * j) ∧ 0 < A (95 + 9 * j) ∧ A (96 + 9 * j) < A 1) ∨ (B (96 + 9 * j) < A 1 ∧ (B (94 + 9 * j) = A (10 + 7 * B (96 + 9 * j)) ∨ B (94 + 9 * j) = A (11 + 7 * B (96 + 9 * j))))) : zGo A B := by
  refine ⟨by omega, by omega, fun h => ⟨?_, fun j hj hb => ?_⟩⟩
  · rw [h1]
    exact h9 h.1
  · rw [h2] at hj
    rcases hp j hj hb with ⟨a, b, c, d⟩ | ⟨a, b⟩
    · rw [a, b, (hs _ d).1, (hs _ d).2]
      exact h.2 j hj c
    · rw [(hs _ a).1, (hs _ a).2]
      exact b
/-- nothing but other cells changed -/
theorem zGo_eq {A B : Nat → Nat} (hI : zI A) (h : ∀ k : Nat, (k = 1 ∨ k = 2 ∨ k = 9 ∨ (10 ≤ k ∧ k < 94 ∧ ((k - 10) % 7 = 0 ∨ (k - 10) % 7 = 1 ∨ (k - 10) % 7 = 6)) ∨ (94 ≤ k ∧ ((k - 94) % 9 = 0 ∨ (k - 94) % 9 = 1 ∨ (k - 94) % 9 = 2))) → B k = A k) : zGo A B := by
  have hA := hI.1
  refine zGo_of (h 1 (by omega)) (h 2 (by omega)) (fun e => ?_) (fun i hi => ⟨h _ (by omega), h _ (by omega)⟩) (fun j hj hb => ?_)
  · rw [h 9 (by omega), ← e]
    exact zsum_c _ (fun i hi => h _ (by omega))
  · rw [h _ (by omega)] at hb
    exact Or.inl ⟨h _ (by omega), h _ (by omega), hb, (zI_pl hI hj).2.2.1 hb⟩
theorem ztk_Go {A : Nat → Nat} (hI : zI A) {j : Nat} (hj : j < A 2) : zGo A (ztk A j) := by
  have h5 := (zI_pl hI hj).2.2.2.1
  refine zGo_eq hI (fun k hk => ?_)
  by_cases e : k < 97 + 9 * j ∨ 103 + 9 * j ≤ k
  · exact ztk_o h5 e
  · omega
theorem zbg_Go {A : Nat → Nat} (hI : zI A) {j u i : Nat} (hj : j < A 2) (hi : i < A 1) : zGo A (zbg A j u i) := by
  have hA := hI.1
  by_cases hf : znr A u i < 9999
  case neg =>
    unfold zbg
    rw [if_neg hf]
    exact zGo_eq hI (fun k hk => zu_n (by omega))
  have o : ∀ k : Nat, k < 94 + 9 * j ∨ 97 + 9 * j ≤ k → k ≠ 8 → zbg A j u i k = A k := fun k h h8 => zbg_o h h8
  refine zGo_of (o 1 (by omega) (by omega)) (o 2 (by omega) (by omega)) (fun e => ?_) (fun i' hi' => ⟨o _ (by omega) (by omega), o _ (by omega) (by omega)⟩) (fun j' hj' hb => ?_)
  · rw [o 9 (by omega) (by omega), ← e]
    exact zsum_c _ (fun i' hi' => o _ (by omega) (by omega))
  · by_cases e : j' = j
    · subst e
      have e6 : zbg A j' u i (96 + 9 * j') = i := by
        unfold zbg
        rw [if_pos hf, zu_n (by omega), zu_s]
      have e4 : zbg A j' u i (94 + 9 * j') = if zD A u (A (10 + 7 * i)) ≤ zD A u (A (11 + 7 * i)) then A (11 + 7 * i) else A (10 + 7 * i) := by
        unfold zbg
        rw [if_pos hf, zu_s]
      refine Or.inr ?_
      rw [e6, e4]
      refine ⟨hi, ?_⟩
      split
      · exact Or.inr rfl
      · exact Or.inl rfl
    · rw [o _ (by omega) (by omega)] at hb
      exact Or.inl ⟨o _ (by omega) (by omega), o _ (by omega) (by omega), hb, (zI_pl hI hj').2.2.1 hb⟩
theorem zb1_Go {A : Nat → Nat} (hI : zI A) {j : Nat} (hj : j < A 2) : zGo A (zb1 A j) := by
  unfold zb1
  split
  · rename_i h
    have hI2 := ztk_I hI hj
    have h5 := (zI_pl hI hj).2.2.2.1
    have e2 : ztk A j 2 = A 2 := ztk_o h5 (by omega)
    have e1 : ztk A j 1 = A 1 := ztk_o h5 (by omega)
    have hi := (zI_pl hI hj).2.2.2.2 0 h.2
    exact zGo_tr (ztk_Go hI hj) (zbg_Go hI2 (by omega) (by rw [e1]; exact hi))
  · exact zGo_rf
theorem zwk2_Go {A : Nat → Nat} (hI : zI A) {j : Nat} (hj : j < A 2) : zGo A (zwk2 A j) := by
  have hA := hI.1
  unfold zwk2
  split
  · exact zGo_rf
  · rename_i h0
    have hi := (zI_pl hI hj).2.2.1 (by omega)
    split
    · have o : ∀ k : Nat, k ≠ 95 + 9 * j → k ≠ 96 + 9 * j → k ≠ 6 → k ≠ 7 → k ≠ 14 + 7 * A (96 + 9 * j) → zu (zcl (zu A (95 + 9 * j) 0) (A (96 + 9 * j))) (96 + 9 * j) 0 k = A k := by
        intro k a b c d e
        rw [zu_n b, zcl_o (by omega) e, zu_n a]
      have hz : zu (zcl (zu A (95 + 9 * j) 0) (A (96 + 9 * j))) (96 + 9 * j) 0 (95 + 9 * j) = 0 := by
        rw [zu_n (by omega), zcl_o (by omega) (by omega), zu_s]
      refine zGo_of (o 1 (by omega) (by omega) (by omega) (by omega) (by omega)) (o 2 (by omega) (by omega) (by omega) (by omega) (by omega)) (fun e => ?_) (fun i' hi' => ⟨o _ (by omega) (by omega) (by omega) (by omega) (by omega), o _ (by omega) (by omega) (by omega) (by omega) (by omega)⟩) (fun j' hj' hb => ?_)
      · rw [o 9 (by omega) (by omega) (by omega) (by omega) (by omega), ← e]
        exact zsum_c _ (fun i' hi' => o _ (by omega) (by omega) (by omega) (by omega) (by omega))
      · by_cases e : j' = j
        · subst e
          rw [hz] at hb
          exact absurd hb (Nat.lt_irrefl 0)
        · rw [o _ (by omega) (by omega) (by omega) (by omega) (by omega)] at hb
          exact Or.inl ⟨o _ (by omega) (by omega) (by omega) (by omega) (by omega), o _ (by omega) (by omega) (by omega) (by omega) (by omega), hb, (zI_pl hI hj').2.2.1 hb⟩
    · have o : ∀ k : Nat, k ≠ 95 + 9 * j → zu A (95 + 9 * j) (A (95 + 9 * j) - 1) k = A k := fun k h => zu_n h
      refine zGo_of (o 1 (by omega)) (o 2 (by omega)) (fun e => ?_) (fun i' hi' => ⟨o _ (by omega), o _ (by omega)⟩) (fun j' hj' hb => ?_)
      · rw [o 9 (by omega), ← e]
        exact zsum_c _ (fun i' hi' => o _ (by omega))
      · by_cases e : j' = j
        · subst e
          exact Or.inl ⟨o _ (by omega), o _ (by omega), by omega, hi⟩
        · rw [o _ (by omega)] at hb
          exact Or.inl ⟨o _ (by omega), o _ (by omega), hb, (zI_pl hI hj').2.2.1 hb⟩
theorem zpm_Go {A : Nat → Nat} (hI : zI A) {j : Nat} (hj : j < A 2) : zGo A (zpm A j) :=
  zGo_tr (zb1_Go hI hj) (zwk2_Go (zb1_I hI hj) (by rw [(zb1_same hI hj).1 2 (by omega)]; exact hj))
theorem zps_Go {A : Nat → Nat} (hI : zI A) : ∀ j : Nat, j ≤ A 2 → zGo A (zps A j)
  | 0, _ => by
    unfold zps
    exact zGo_eq hI (fun k hk => zu_n (by omega))
  | j + 1, hj => by
    have h2 : zps A j 2 = A 2 := zps_k hI (by omega) (by omega) (by omega)
    have := zpm_Go (zps_I hI j (by omega)).1 (j := j) (by omega)
    unfold zps
    exact zGo_tr (zps_Go hI j (by omega)) this
theorem zhour_Go {A : Nat → Nat} (hI : zI A) : zGo A (zhour A) := by
  have hA := hI.1
  have hc : ∀ i c : Nat, c < 7 → c ≠ 4 → c ≠ 6 → zhour A (10 + 7 * i + c) = A (10 + 7 * i + c) := fun i c a b d => zhour_c a b d
  refine zGo_of (zhour_lo (by omega)) (zhour_lo (by omega)) (fun e => ?_) (fun i hi => ?_) (fun j hj hb => ?_)
  · rw [zhour_9, ← e, ← zsum_cn]
    exact zsum_c _ (fun i hi => by rw [zhour_6 hi]; rfl)
  · have a := hc i 0 (by omega) (by omega) (by omega)
    have b := hc i 1 (by omega) (by omega) (by omega)
    rw [show 10 + 7 * i + 1 = 11 + 7 * i by omega] at b
    exact ⟨a, b⟩
  · rw [zhour_hi (by omega)] at hb
    exact Or.inl ⟨zhour_hi (by omega), zhour_hi (by omega), hb, (zI_pl hI hj).2.2.1 hb⟩
theorem zmin_Go {A : Nat → Nat} (hI : zI A) : zGo A (zmin A) := by
  have h := zps_Go hI (A 2) (Nat.le_refl _)
  unfold zmin
  split
  · exact zGo_tr h (zhour_Go (zps_I hI (A 2) (Nat.le_refl _)).1)
  · exact h
theorem zit_Go {A : Nat → Nat} (hI : zI A) : ∀ k : Nat, zGo A (zit A k)
  | 0 => zGo_rf
  | k + 1 => zGo_tr (zit_Go hI k) (zmin_Go (zit_I hI k).1)
/-- what a change that is told keeps -/
def zMo (A B : Nat → Nat) (r : Nat) : Prop := r < 1000000 ∧ zGo A B
