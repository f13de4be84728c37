/-! scripts: a command, read by the reference -/
/-- a sign that stands for itself -/
abbrev zli (w : Nat) : Prop := w ≠ 35 ∧ w ≠ 37 ∧ w ≠ 64
theorem zok_i {w c : Nat} (h : zli w) : zok w c = decide (c = w) := zok_l h.1 h.2.1 h.2.2
theorem zok_y {w c : Nat} (h : zli w) (e : c = w) : zok w c = true := by rw [zok_i h]; exact decide_eq_true e
theorem zok_no {w c : Nat} (h : zli w) (e : c ≠ w) : ¬ zok w c = true := by rw [zok_i h]; exact fun z => e (of_decide_eq_true z)
theorem zok_d {c : Nat} : zok 35 c = true ↔ 48 ≤ c ∧ c ≤ 57 := ⟨fun e => of_decide_eq_true (show decide (48 ≤ c ∧ c ≤ 57) = true from e), fun e => (decide_eq_true e : decide (48 ≤ c ∧ c ≤ 57) = true)⟩
theorem zok_m {c : Nat} : zok 37 c = true ↔ 48 ≤ c ∧ c ≤ 57 := ⟨fun e => of_decide_eq_true (show decide (48 ≤ c ∧ c ≤ 57) = true from e), fun e => (decide_eq_true e : decide (48 ≤ c ∧ c ≤ 57) = true)⟩
theorem zok_c {c : Nat} : zok 64 c = true ↔ 97 ≤ c ∧ c ≤ 99 := ⟨fun e => of_decide_eq_true (show decide (97 ≤ c ∧ c ≤ 99) = true from e), fun e => (decide_eq_true e : decide (97 ≤ c ∧ c ≤ 99) = true)⟩
theorem zft_ay {sg : Nat → Nat} : ∀ (W r : List Nat) (a : Nat), zft sg W a = W.length → zft sg (W ++ r) a = W.length + zft sg r (a + W.length)
  | [], r, a, _ => (Nat.zero_add _).symm
  | w :: W, r, a, e => by
    by_cases y : zok w (sg a) = true
    · rw [zft_y y] at e
      simp only [List.length_cons] at e
      rw [List.cons_append, zft_y y, zft_ay W r (a + 1) (by omega)]
      simp only [List.length_cons]
      rw [show a + 1 + W.length = a + (W.length + 1) by omega]
      omega
    · rw [zft_n y] at e
      exact absurd e (by simp only [List.length_cons]; omega)
theorem zft_an {sg : Nat → Nat} : ∀ (W r : List Nat) (a : Nat), zft sg W a ≠ W.length → zft sg (W ++ r) a = zft sg W a
  | [], r, a, e => absurd rfl e
  | w :: W, r, a, e => by
    by_cases y : zok w (sg a) = true
    · rw [zft_y y] at e
      simp only [List.length_cons] at e
      rw [List.cons_append, zft_y y, zft_y y, zft_an W r (a + 1) (by omega)]
    · rw [List.cons_append, zft_n y, zft_n y]
theorem zrv_l {sg : Nat → Nat} {w : Nat} {r : List Nat} {f p : Nat} {vals : Nat → Nat} (h : zli w) (hf : f < 4) : zrv sg (w :: r) f p vals = zrv sg r f (p + 1) vals := by
  conv => lhs; unfold zrv
  rw [if_neg (by omega), if_neg h.2.2, if_neg h.1, if_neg h.2.1]
theorem zrv_d {sg : Nat → Nat} {r : List Nat} {f p : Nat} {vals : Nat → Nat} (hf : f < 4) : zrv sg (35 :: r) f p vals = zrv sg r (f + 1) (p + 1) (zu vals f (sg p - 48)) := by
  conv => lhs; unfold zrv
  rw [if_neg (by omega), if_neg (by omega), if_pos rfl]
theorem zrv_c {sg : Nat → Nat} {r : List Nat} {f p : Nat} {vals : Nat → Nat} (hf : f < 4) : zrv sg (64 :: r) f p vals = zrv sg r (f + 1) (p + 1) (zu vals f (sg p)) := by
  conv => lhs; unfold zrv
  rw [if_neg (by omega), if_pos rfl]
theorem zrv_m {sg : Nat → Nat} {r : List Nat} {f p : Nat} {vals : Nat → Nat} (hf : f < 4) : zrv sg (37 :: r) f p vals = (f + 1, zu vals f (zrn sg 3 0 p).1, (zrn sg 3 0 p).2) := by
  conv => lhs; unfold zrv
  rw [if_neg (by omega), if_neg (by omega), if_neg (by omega), if_pos rfl]
theorem zrv_w {sg : Nat → Nat} {f : Nat} {vals : Nat → Nat} (hf : f < 4) : ∀ (W r : List Nat) (p : Nat), (∀ w : Nat, w ∈ W → zli w) → zrv sg (W ++ r) f p vals = zrv sg r f (p + W.length) vals
  | [], r, p, _ => rfl
  | w :: W, r, p, h => by
    rw [List.cons_append, zrv_l (h w (List.mem_cons_self ..)) hf, zrv_w hf W r (p + 1) (fun u hu => h u (List.mem_cons_of_mem _ hu))]
    simp only [List.length_cons]
    rw [show p + 1 + W.length = p + (W.length + 1) by omega]
/-- what is left of a form, i signs on -/
def zRs (sg : Nat → Nat) (v a i : Nat) (L : List Nat) (f : Nat) (vals : Nat → Nat) : Prop := zft sg (zfm v) a = i + zft sg L (a + i) ∧ (zfm v).length = i + L.length ∧ zcv sg a v = zrv sg L f (a + i) vals
theorem zRs_w {sg : Nat → Nat} {v a i f : Nat} {W r : List Nat} {vals : Nat → Nat} (h : zRs sg v a i (W ++ r) f vals) (hl : ∀ w : Nat, w ∈ W → zli w) (hf : f < 4) (e : zft sg W (a + i) = W.length) : zRs sg v a (i + W.length) r f vals := by
  obtain ⟨h1, h2, h3⟩ := h
  rw [zft_ay W r _ e] at h1
  rw [List.length_append] at h2
  rw [zrv_w hf W r _ hl] at h3
  rw [show a + i + W.length = a + (i + W.length) by omega] at h1 h3
  exact ⟨by omega, by omega, h3⟩
theorem zRs_wn {sg : Nat → Nat} {v a i f : Nat} {W r : List Nat} {vals : Nat → Nat} (h : zRs sg v a i (W ++ r) f vals) (e : zft sg W (a + i) ≠ W.length) : ¬ zmt sg a v ∧ a + i + zft sg W (a + i) = a + zft sg (zfm v) a := by
  obtain ⟨h1, h2, h3⟩ := h
  have := zft_le sg W (a + i)
  rw [zft_an W r _ e] at h1
  rw [List.length_append] at h2
  exact ⟨fun z => by have z' : zft sg (zfm v) a = (zfm v).length := z; omega, by omega⟩
theorem zRs_n {sg : Nat → Nat} {v a i f w : Nat} {r : List Nat} {vals : Nat → Nat} (h : zRs sg v a i (w :: r) f vals) (e : ¬ zok w (sg (a + i)) = true) : ¬ zmt sg a v ∧ a + i = a + zft sg (zfm v) a := by
  obtain ⟨h1, h2, h3⟩ := h
  rw [zft_n e] at h1
  simp only [List.length_cons] at h2
  exact ⟨fun z => by have z' : zft sg (zfm v) a = (zfm v).length := z; omega, by omega⟩
theorem zRs_l {sg : Nat → Nat} {v a i f w : Nat} {r : List Nat} {vals : Nat → Nat} (h : zRs sg v a i (w :: r) f vals) (hl : zli w) (hf : f < 4) (e : sg (a + i) = w) : zRs sg v a (i + 1) r f vals := by
  obtain ⟨h1, h2, h3⟩ := h
  rw [zft_y (zok_y hl e)] at h1
  rw [zrv_l hl hf] at h3
  simp only [List.length_cons] at h2
  exact ⟨by rw [h1]; show i + (zft sg r (a + i + 1) + 1) = i + 1 + zft sg r (a + i + 1); omega, by omega, h3⟩
theorem zRs_d {sg : Nat → Nat} {v a i f : Nat} {r : List Nat} {vals : Nat → Nat} (h : zRs sg v a i (35 :: r) f vals) (hf : f < 4) (e : 48 ≤ sg (a + i) ∧ sg (a + i) ≤ 57) : zRs sg v a (i + 1) r (f + 1) (zu vals f (sg (a + i) - 48)) := by
  obtain ⟨h1, h2, h3⟩ := h
  rw [zft_y (zok_d.mpr e)] at h1
  rw [zrv_d hf] at h3
  simp only [List.length_cons] at h2
  exact ⟨by rw [h1]; show i + (zft sg r (a + i + 1) + 1) = i + 1 + zft sg r (a + i + 1); omega, by omega, h3⟩
theorem zRs_c {sg : Nat → Nat} {v a i f : Nat} {r : List Nat} {vals : Nat → Nat} (h : zRs sg v a i (64 :: r) f vals) (hf : f < 4) (e : 97 ≤ sg (a + i) ∧ sg (a + i) ≤ 99) : zRs sg v a (i + 1) r (f + 1) (zu vals f (sg (a + i))) := by
  obtain ⟨h1, h2, h3⟩ := h
  rw [zft_y (zok_c.mpr e)] at h1
  rw [zrv_c hf] at h3
  simp only [List.length_cons] at h2
  exact ⟨by rw [h1]; show i + (zft sg r (a + i + 1) + 1) = i + 1 + zft sg r (a + i + 1); omega, by omega, h3⟩
theorem zRs_e {sg : Nat → Nat} {v a i f : Nat} {vals : Nat → Nat} (h : zRs sg v a i [] f vals) : zmt sg a v ∧ zcv sg a v = (f, vals, a + i) := by
  obtain ⟨h1, h2, h3⟩ := h
  refine ⟨?_, h3⟩
  show zft sg (zfm v) a = (zfm v).length
  rw [h1, h2]
  rfl
theorem zRs_m {sg : Nat → Nat} {v a i f : Nat} {vals : Nat → Nat} (h : zRs sg v a i [37] f vals) (hf : f < 4) (e : 48 ≤ sg (a + i) ∧ sg (a + i) ≤ 57) : zmt sg a v ∧ zcv sg a v = (f + 1, zu vals f (zrn sg 3 0 (a + i)).1, (zrn sg 3 0 (a + i)).2) := by
  obtain ⟨h1, h2, h3⟩ := h
  rw [zrv_m hf] at h3
  refine ⟨?_, h3⟩
  show zft sg (zfm v) a = (zfm v).length
  rw [h1, h2, zft_y (zok_m.mpr e)]
  rfl
theorem zRs_0 {sg : Nat → Nat} {v a w : Nat} {r : List Nat} (h : zfm v = w :: r) (hl : zli w) (e : sg a = w) : zRs sg v a 1 r 0 (fun _ => 0) := by
  have h0 : zRs sg v a 0 (w :: r) 0 (fun _ => 0) := by
    refine ⟨by rw [h]; exact (Nat.zero_add _).symm, by rw [h]; exact (Nat.zero_add _).symm, ?_⟩
    unfold zcv
    rw [h]
    rfl
  exact zRs_l h0 hl (by omega) e
/-! the rows of a command -/
def zRw (k : Nat) (c : Int32) (f : Nat) (vals : Nat → Nat) (M0 M : Nat → Int32) : Prop := M (5 * k) = c ∧ (∀ q : Nat, q < f → M (5 * k + 1 + q) = nI (vals q)) ∧ ∀ j : Nat, j < 5 * k → M j = M0 j
theorem zRw_0 {k : Nat} {c : Int32} {vals : Nat → Nat} {M0 M : Nat → Int32} (h : ∀ j : Nat, j < 5 * k → M j = M0 j) : zRw k c 0 vals M0 (upd M (5 * k) c) :=
  ⟨pk_us .., fun q hq => absurd hq (Nat.not_lt_zero q), fun j hj => by rw [pk_un (by omega)]; exact h j hj⟩
theorem zRw_s {k : Nat} {c : Int32} {f v : Nat} {vals : Nat → Nat} {M0 M : Nat → Int32} (h : zRw k c f vals M0 M) : zRw k c (f + 1) (zu vals f v) M0 (upd M (5 * k + 1 + f) (nI v)) := by
  obtain ⟨a, b, d⟩ := h
  refine ⟨by rw [pk_un (by omega)]; exact a, fun q hq => ?_, fun j hj => by rw [pk_un (by omega)]; exact d j hj⟩
  by_cases e : q = f
  · rw [e, pk_us, zu_s]
  · rw [pk_un (by omega), zu_n e]
    exact b q (by omega)
theorem zRw_c {k : Nat} {c c' : Int32} {vals : Nat → Nat} {M0 M : Nat → Int32} (h : zRw k c 0 vals M0 M) : zRw k c' 0 vals M0 (upd M (5 * k) c') := zRw_0 h.2.2

