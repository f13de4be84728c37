/-! what holds between the law's calls: over the dispatcher's one value -/
/-- the ring holds the last c towns -/
def zHs (tb f c : Nat) (h : Nat → Nat → Nat) (R : Nat → TT) : Prop := ∀ i : Nat, i < c → h i 0 ≤ tb ∧ zTT (h i) (R ((f + (9 - c) + i) % 9))
theorem zHs_w {tb tb' f c : Nat} {h : Nat → Nat → Nat} {R R' : Nat → TT} (hf : f < 9) (hc : c ≤ 8) (htb : tb ≤ tb') (hh : zHs tb f c h R) (hR : ∀ j, j ≠ f → R' j = R j) : zHs tb' f c h R' := by
  intro i hi
  obtain ⟨a, b⟩ := hh i hi
  refine ⟨by omega, ?_⟩
  rw [hR _ (by omega)]
  exact b
theorem zHs_p {tb tb' f c : Nat} {h : Nat → Nat → Nat} {R R' : Nat → TT} {A : Nat → Nat} (hf : f < 9) (hc : c ≤ 8) (htb : tb ≤ tb') (hh : zHs tb f c h R) (hR : ∀ j, j ≠ f → R' j = R j) (hA : zTT A (R' f)) (h0 : A 0 ≤ tb') : ∃ h' : Nat → Nat → Nat, zHs tb' ((f + 1) % 9) (if 8 < c + 1 then 8 else c + 1) h' R' ∧ h' ((if 8 < c + 1 then 8 else c + 1) - 1) = A := by
  by_cases e : c = 8
  · subst e
    refine ⟨fun i => if i = 7 then A else h (i + 1), ?_, ?_⟩
    · rw [if_pos (by omega)]
      intro i hi
      dsimp only
      by_cases e7 : i = 7
      · subst e7
        rw [if_pos rfl, show ((f + 1) % 9 + (9 - 8) + 7) % 9 = f by omega]
        exact ⟨h0, hA⟩
      · obtain ⟨a, b⟩ := hh (i + 1) (by omega)
        rw [if_neg e7, show ((f + 1) % 9 + (9 - 8) + i) % 9 = (f + (9 - 8) + (i + 1)) % 9 by omega, hR _ (by omega)]
        exact ⟨by omega, b⟩
    · rw [if_pos (by omega)]
      exact if_pos rfl
  · refine ⟨fun i => if i = c then A else h i, ?_, ?_⟩
    · rw [if_neg (by omega)]
      intro i hi
      dsimp only
      by_cases e7 : i = c
      · subst e7
        rw [if_pos rfl, show ((f + 1) % 9 + (9 - (i + 1)) + i) % 9 = f by omega]
        exact ⟨h0, hA⟩
      · obtain ⟨a, b⟩ := hh i (by omega)
        rw [if_neg e7, show ((f + 1) % 9 + (9 - (c + 1)) + i) % 9 = (f + (9 - c) + i) % 9 by omega, hR _ (by omega)]
        exact ⟨by omega, b⟩
    · rw [if_neg (by omega), Nat.add_sub_cancel]
      exact if_pos rfl
/-- what is typed, what is rendered -/
def zTp (n : Nat) (x : Nat → Nat) (G : GS) : Prop := (G.2.2.2.2.2.2.1 = 16 ∨ G.2.2.2.2.2.2.1 = 34 ∨ G.2.2.2.2.2.2.1 = 70) ∧ (∀ i : Nat, i < G.2.2.2.2.2.2.1 → fits .byte (.int (G.2.2.2.2.2.2.2.1 i)) = true) ∧ n ≤ 60 ∧ n ≤ G.2.2.2.2.2.2.1 ∧ G.2.2.2.2.1 = nI n ∧ ∀ i : Nat, i < n → 32 ≤ x i ∧ x i ≤ 126 ∧ G.2.2.2.2.2.2.2.1 i = nI (x i)
def zOo (G : GS) : Prop := G.2.2.2.2.2.2.2.2.2.2.2.1 = 16 ∧ ∃ n : Nat, n ≤ 16 ∧ G.2.2.2.2.2.2.2.2.2.1 = nI n
/-- the town A, the last c towns h, the saved ones Z, n signs x typed; no time is behind tb -/
def zS0 (tb : Nat) (Z : (Nat → Nat) → Prop) (A : Nat → Nat) (c : Nat) (h : Nat → Nat → Nat) (n : Nat) (x : Nat → Nat) (V : DV) : Prop :=
  A 0 ≤ tb ∧ zTT A V.2.1 ∧ (∃ f : Nat, f < 9 ∧ c ≤ 8 ∧ V.2.2.2.2.1.1 = nI f ∧ V.2.2.2.2.1.2.1 = nI c ∧ zHs tb f c h V.2.2.2.2.1.2.2) ∧ (∀ S, Z S → V.1.1 = 1 ∧ zTT S V.2.2.2.1) ∧ zTp n x V.2.2.2.2.2 ∧ zOo V.2.2.2.2.2
abbrev zST (tb : Nat) (Z : (Nat → Nat) → Prop) (A : Nat → Nat) (c : Nat) (h : Nat → Nat → Nat) (V : DV) : Prop := zS0 tb Z A c h 0 (fun _ => 0) V
theorem zS0.mono {tb tb' : Nat} {Z : (Nat → Nat) → Prop} {A : Nat → Nat} {c : Nat} {h : Nat → Nat → Nat} {n : Nat} {x : Nat → Nat} {V : DV} (hV : zS0 tb Z A c h n x V) (htb : tb ≤ tb') : zS0 tb' Z A c h n x V := by
  obtain ⟨h0, hT, ⟨f, hf, hc, e1, e2, hh⟩, hr⟩ := hV
  exact ⟨by omega, hT, ⟨f, hf, hc, e1, e2, zHs_w hf hc htb hh (fun _ _ => rfl)⟩, hr⟩
/-- what a change does: it refuses, and nothing is changed; or it tells a number, and the town before it is the last one -/
def zRq (tb : Nat) (Z : (Nat → Nat) → Prop) (A : Nat → Nat) (c : Nat) (h : Nat → Nat → Nat) (E : Prop) (E' : (Nat → Nat) → Prop) (r : Int32) (V' : DV) : Prop :=
  ((r = -900001 ∨ r = -900002 ∨ r = -900003) ∧ E ∧ zST tb Z A c h V') ∨ ∃ (n : Nat) (B : Nat → Nat) (c' : Nat) (h' : Nat → Nat → Nat), r = nI n ∧ zMo A B n ∧ E' B ∧ 0 < c' ∧ h' (c' - 1) = A ∧ zST (tb + 6000) Z B c' h' V'
