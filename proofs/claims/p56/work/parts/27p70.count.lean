/-! scripts: how many commands -/
def zwf : List Nat → Nat → Bool
  | [], _ => true
  | w :: r, f => decide (f < 4) && (if w = 37 then decide (r = []) else zwf r (if w = 35 ∨ w = 64 then f + 1 else f))
def zct : List Nat → Nat
  | [] => 0
  | w :: r => (if w = 35 ∨ w = 64 ∨ w = 37 then 1 else 0) + zct r
theorem zrv_g {sg : Nat → Nat} : ∀ (L : List Nat) (f p : Nat) (vals : Nat → Nat), zwf L f = true → zft sg L p = L.length → p + L.length ≤ (zrv sg L f p vals).2.2 ∧ (zrv sg L f p vals).1 = f + zct L
  | [], f, p, vals, _, _ => ⟨Nat.le_refl _, rfl⟩
  | w :: r, f, p, vals, hw, hz => by
    have hok : zok w (sg p) = true := by
      by_cases y : zok w (sg p) = true
      · exact y
      · rw [zft_n y] at hz
        simp only [List.length_cons] at hz
        omega
    have hz' : zft sg r (p + 1) = r.length := by
      rw [zft_y hok] at hz
      simp only [List.length_cons] at hz
      omega
    have hw1 := (Bool.and_eq_true_iff.mp (show (decide (f < 4) && (if w = 37 then decide (r = []) else zwf r (if w = 35 ∨ w = 64 then f + 1 else f))) = true from hw))
    have hf : f < 4 := of_decide_eq_true hw1.1
    have hw2 := hw1.2
    simp only [List.length_cons]
    have ec : zct (w :: r) = (if w = 35 ∨ w = 64 ∨ w = 37 then 1 else 0) + zct r := rfl
    by_cases e37 : w = 37
    · subst e37
      rw [if_pos rfl] at hw2
      have er : r = [] := of_decide_eq_true hw2
      subst er
      rw [zrv_m hf, ec]
      have d := zok_m.mp hok
      refine ⟨?_, rfl⟩
      show p + (0 + 1) ≤ (zrn sg 3 0 p).2
      rw [zrn_y d]
      have := (@zrn_le sg 2 (10 * 0 + (sg p - 48)) (p + 1)).1
      omega
    · rw [if_neg e37] at hw2
      by_cases e35 : w = 35
      · subst e35
        have q := zrv_g r (f + 1) (p + 1) (zu vals f (sg p - 48)) hw2 hz'
        rw [zrv_d hf, ec, if_pos (Or.inl rfl)]
        exact ⟨by omega, by omega⟩
      · by_cases e64 : w = 64
        · subst e64
          have q := zrv_g r (f + 1) (p + 1) (zu vals f (sg p)) hw2 hz'
          rw [zrv_c hf, ec, if_pos (Or.inr (Or.inl rfl))]
          exact ⟨by omega, by omega⟩
        · rw [if_neg (by omega)] at hw2
          have q := zrv_g r f (p + 1) vals hw2 hz'
          rw [zrv_l ⟨e35, e37, e64⟩ hf, ec, if_neg (by omega)]
          exact ⟨by omega, by omega⟩
theorem zrv_b {sg : Nat → Nat} (hs : ∀ c : Nat, sg c < 128) : ∀ (L : List Nat) (f p : Nat) (vals : Nat → Nat), (∀ q : Nat, vals q < 1000) → ∀ q : Nat, (zrv sg L f p vals).2.1 q < 1000
  | [], f, p, vals, h, q => h q
  | w :: r, f, p, vals, h, q => by
    have hu : ∀ v : Nat, v < 1000 → ∀ q : Nat, zu vals f v q < 1000 := by
      intro v hv q
      unfold zu
      split
      · exact hv
      · exact h q
    have hp := hs p
    unfold zrv
    split
    · exact h q
    · split
      · exact zrv_b hs r _ _ _ (hu _ (by omega)) q
      · split
        · exact zrv_b hs r _ _ _ (hu _ (by omega)) q
        · split
          · have := (@zrn_le sg 3 0 p).2.2
            exact hu _ (by omega) q
          · exact zrv_b hs r _ _ _ h q
theorem zfm_wf : ∀ v : Nat, v < 9 → zwf (zfm v) 0 = true := by decide
theorem zfm_ct : ∀ v : Nat, v < 9 → zct (zfm v) = (if v = 0 then 4 else if v = 2 then 2 else 1) := by decide
theorem zfm_32 : ∀ v : Nat, v < 9 → ∀ w : Nat, w ∈ zfm v → 32 ≤ w := by decide
/-- what a command's reading gives -/
theorem zvl_f {n : Nat} {x : Nat → Nat} (hs : ∀ c : Nat, zsg n x c < 128) {a : Nat} (ha : a ≤ n) (h : zgd (zsg n x) a) : a + 6 ≤ (zvl (zsg n x) a).2.2 ∧ (zvl (zsg n x) a).2.2 ≤ n ∧ (zvl (zsg n x) a).1 = (if zrho (zsg n x) a = 0 then 4 else if zrho (zsg n x) a = 2 then 2 else 1) ∧ ∀ q : Nat, (zvl (zsg n x) a).2.1 q < 1000 := by
  obtain ⟨hr, hm⟩ := h
  have g := zrv_g (sg := zsg n x) (zfm (zrho (zsg n x) a)) 0 a (fun _ => 0) (zfm_wf _ hr) hm
  have h6 := zfm_6 _ hr
  refine ⟨?_, zrv_e _ 0 a _ (zfm_32 _ hr) rfl hm ha, ?_, zrv_b hs _ 0 a _ (fun _ => by omega)⟩
  · unfold zvl zcv
    omega
  · unfold zvl zcv
    rw [g.2, zfm_ct _ hr]
    exact Nat.zero_add _
/-- where the k-th command begins -/
def zpt (sg : Nat → Nat) : Nat → Nat
  | 0 => 0
  | k + 1 => (zvl sg (zpt sg k)).2.2 + 1
/-- k commands, each with its separator -/
def zrun (sg : Nat → Nat) (k : Nat) : Prop := ∀ i : Nat, i < k → zgd sg (zpt sg i) ∧ sg (zvl sg (zpt sg i)).2.2 = 59
theorem zrun_7 {n : Nat} {x : Nat → Nat} (hs : ∀ c : Nat, zsg n x c < 128) : ∀ k : Nat, zrun (zsg n x) k → 7 * k ≤ zpt (zsg n x) k ∧ zpt (zsg n x) k ≤ n
  | 0, _ => ⟨Nat.le_refl _, Nat.zero_le _⟩
  | k + 1, h => by
    have i := zrun_7 hs k (fun i hi => h i (by omega))
    have e := h k (by omega)
    have f := zvl_f hs i.2 e.1
    have hn : (zvl (zsg n x) (zpt (zsg n x) k)).2.2 < n := by
      by_cases q : (zvl (zsg n x) (zpt (zsg n x) k)).2.2 < n
      · exact q
      · have e2 := e.2
        rw [show zsg n x (zvl (zsg n x) (zpt (zsg n x) k)).2.2 = 0 from if_neg q] at e2
        omega
    show 7 * (k + 1) ≤ (zvl (zsg n x) (zpt (zsg n x) k)).2.2 + 1 ∧ (zvl (zsg n x) (zpt (zsg n x) k)).2.2 + 1 ≤ n
    omega
/-- how reading a script ends -/
def zEnd (n : Nat) (x : Nat → Nat) (q : Nat) : Prop := zrun (zsg n x) q ∧ (¬ zgd (zsg n x) (zpt (zsg n x) q) ∨ zgd (zsg n x) (zpt (zsg n x) q) ∧ zsg n x (zvl (zsg n x) (zpt (zsg n x) q)).2.2 ≠ 59)
theorem zEnd_x {n : Nat} {x : Nat → Nat} (hs : ∀ c : Nat, zsg n x c < 128) (h60 : n ≤ 60) : ∃ q : Nat, q ≤ 8 ∧ zEnd n x q := by
  have go : ∀ k : Nat, (∃ q : Nat, q < k ∧ zEnd n x q) ∨ zrun (zsg n x) k := by
    intro k
    induction k with
    | zero => exact Or.inr (fun i hi => absurd hi (Nat.not_lt_zero i))
    | succ k ih =>
      rcases ih with ⟨q, hq, h⟩ | h
      · exact Or.inl ⟨q, by omega, h⟩
      · by_cases g : zgd (zsg n x) (zpt (zsg n x) k)
        · by_cases e : zsg n x (zvl (zsg n x) (zpt (zsg n x) k)).2.2 = 59
          · refine Or.inr (fun i hi => ?_)
            by_cases ei : i = k
            · rw [ei]; exact ⟨g, e⟩
            · exact h i (by omega)
          · exact Or.inl ⟨k, by omega, h, Or.inr ⟨g, e⟩⟩
        · exact Or.inl ⟨k, by omega, h, Or.inl g⟩
  rcases go 9 with ⟨q, hq, h⟩ | h
  · exact ⟨q, by omega, h⟩
  · have := zrun_7 hs 9 h
    omega
/-- the program counts -/
theorem k_cntL {n cap : Nat} {b : Nat → Int32} {x : Nat → Nat} (hx : zSX n cap b x) {q : Nat} (hq : q ≤ 8) (hE : zEnd n x q) {post : Int32 → (Nat → Int32) → Int32 → Int32 → Prop}
    (h1 : zgd (zsg n x) (zpt (zsg n x) q) → (zvl (zsg n x) (zpt (zsg n x) q)).2.2 = n → ∀ cv verb, post (nI (q + 1)) cv (nI n) verb)
    (h2 : zgd (zsg n x) (zpt (zsg n x) q) → (zvl (zsg n x) (zpt (zsg n x) q)).2.2 ≠ n → ∀ cv verb, post (-1) cv (nI (zvl (zsg n x) (zpt (zsg n x) q)).2.2) verb)
    (h3 : ¬ zgd (zsg n x) (zpt (zsg n x) q) → ∀ cv verb, post (-1) cv (nI (zfp (zsg n x) (zpt (zsg n x) q))) verb) : ∀ (d k : Nat), k + d = q → ∀ cv verb, wpX3_countCommands_L7 (nI n) cap b post (d + 1) (nI (k + 1)) cv (nI (zpt (zsg n x) k)) verb := by
  have h60 := hx.1
  have hs := zsg_lt hx
  intro d
  induction d with
  | zero =>
    intro k hk cv verb
    have ek : k = q := by omega
    subst ek
    have r7 := zrun_7 hs k hE.1
    refine br_f (nI_nlt (a := 60) (by omega) (by omega)) (k_ccmd hx (by omega) (fun g cv' hcv => br_n (by decide) ?_) (fun g => br_m rfl (h3 g _ _)))
    have f := zvl_f hs r7.2 g
    unfold wpJ4_length_8abf5
    by_cases e : (zvl (zsg n x) (zpt (zsg n x) k)).2.2 < n
    · refine br_t (nI_lt e (by omega)) (k_sign hx (by omega) (br_f (fun z => ?_) (h2 g (by omega) _ _)))
      have e59 : zsg n x (zvl (zsg n x) (zpt (zsg n x) k)).2.2 = 59 := (nI_eq (b := 59) (by have := hs (zvl (zsg n x) (zpt (zsg n x) k)).2.2; omega) (by omega)).mp z
      rcases hE.2 with z2 | z2
      · exact z2 g
      · exact z2.2 e59
    · have en : (zvl (zsg n x) (zpt (zsg n x) k)).2.2 = n := by omega
      rw [en]
      exact br_f (nI_nlt (Nat.le_refl _) (by omega)) (h1 g en _ _)
  | succ d ih =>
    intro k hk cv verb
    have r := hE.1 k (by omega)
    have r7 := zrun_7 hs k (fun i hi => hE.1 i (by omega))
    refine br_f (nI_nlt (a := 60) (by omega) (by omega)) (k_ccmd hx (by omega) (fun g cv' hcv => br_n (by decide) ?_) (fun g => absurd r.1 g))
    have f := zvl_f hs r7.2 g
    have en : (zvl (zsg n x) (zpt (zsg n x) k)).2.2 < n := by
      by_cases e : (zvl (zsg n x) (zpt (zsg n x) k)).2.2 < n
      · exact e
      · have e2 := r.2
        rw [show zsg n x (zvl (zsg n x) (zpt (zsg n x) k)).2.2 = 0 from if_neg e] at e2
        omega
    unfold wpJ4_length_8abf5
    refine br_t (nI_lt en (by omega)) (k_sign hx (by omega) (br_t (by rw [r.2]; rfl) ?_))
    rw [nI_1, nI_1]
    exact ih (k + 1) (by omega) _ _
/-- the rows of the first k commands -/
def zRg (sg : Nat → Nat) (k : Nat) (M : Nat → Int32) : Prop := ∀ i : Nat, i < k → M (5 * i) = zlt (zrho sg (zpt sg i)) ∧ ∀ p : Nat, p < (zvl sg (zpt sg i)).1 → M (5 * i + 1 + p) = nI ((zvl sg (zpt sg i)).2.1 p)
theorem zRg_s {sg : Nat → Nat} {k : Nat} {M0 M : Nat → Int32} (hf : ∀ i : Nat, i < k → (zvl sg (zpt sg i)).1 ≤ 4) (h : zRg sg k M0) (hw : zRw k (zlt (zrho sg (zpt sg k))) (zcv sg (zpt sg k) (zrho sg (zpt sg k))).1 (zcv sg (zpt sg k) (zrho sg (zpt sg k))).2.1 M0 M) : zRg sg (k + 1) M := by
  intro i hi
  by_cases e : i = k
  · subst e
    exact ⟨hw.1, hw.2.1⟩
  · have q := h i (by omega)
    have f := hf i (by omega)
    refine ⟨by rw [hw.2.2 _ (by omega)]; exact q.1, fun p hp => ?_⟩
    rw [hw.2.2 _ (by omega)]
    exact q.2 p hp
