/-! the class: ploughs, orders, minutes -/
theorem k_ix5 (j k : Nat) : nI j * 5 + nI k = nI (5 * j + k) := by
  rw [show (5 : Int32) = nI 5 from rfl, pk_mul, nI_add, Nat.mul_comm]
theorem k_waitAt {A : Nat → Nat} (hI : zI A) {waiting orders : Nat → Int32} (hw : zL waiting (A 2) (fun j => A (97 + 9 * j))) (ho : ∀ j : Nat, j < A 2 → ∀ k : Nat, k < A (97 + 9 * j) → orders (5 * j + k) = nI (A (98 + 9 * j + k))) {j : Nat} (hj : j < A 2) {x : Int32} {post : Int32 → Prop}
    (h1 : ∀ k : Nat, k < A (97 + 9 * j) → x = nI k → post (nI (A (98 + 9 * j + k)))) (h0 : (¬ ∃ k : Nat, k < A (97 + 9 * j) ∧ x = nI k) → post (-1)) : wpX2_waitingAt (nI j) x waiting orders (nI (A 2)) post := by
  have hp := zI_pl hI hj
  have h2 := hI.1.2.1
  have h5 := hp.2.2.2.1
  unfold wpX2_waitingAt
  refine k_pasI h2 hj (br_f (by decide) ?_)
  by_cases h : ∃ k : Nat, k < A (97 + 9 * j) ∧ x = nI k
  · obtain ⟨k, hk, rfl⟩ := h
    refine br_f (nI_pos (by omega)) ⟨vp_in_nI (by omega) (by omega), ?_⟩
    rw [nI_clamp (by omega), hw j hj]
    try dsimp only
    refine br_f (nI_ge hk (by omega)) (br_t (nI_lt (b := 5) (by omega) (by omega)) ?_)
    rw [k_ix5, nI_clamp (by omega), ho j hj k hk]
    exact ⟨vp_in_nI (by omega) (by omega), h1 k hk rfl⟩
  · rcases z_in (n := A (97 + 9 * j)) (by omega) h with q | q
    · exact br_t q (h0 h)
    · refine ⟨fun _ => h0 h, fun _ => ⟨vp_in_nI (by omega) (by omega), ?_⟩⟩
      rw [nI_clamp (by omega), hw j hj]
      try dsimp only
      exact br_t q (h0 h)
theorem k_rmFirst {A : Nat → Nat} (hI : zI A) {waiting orders : Nat → Int32} (hw : zL waiting (A 2) (fun j => A (97 + 9 * j))) (ho : ∀ j : Nat, j < A 2 → ∀ k : Nat, k < A (97 + 9 * j) → orders (5 * j + k) = nI (A (98 + 9 * j + k))) {j : Nat} (hj : j < A 2) (h0 : 0 < A (97 + 9 * j)) {post : Int32 → (Nat → Int32) → (Nat → Int32) → Prop}
    (h : ∀ w o, zL w (A 2) (fun j' => ztk A j (97 + 9 * j')) → (∀ j' : Nat, j' < A 2 → ∀ k : Nat, k < ztk A j (97 + 9 * j') → o (5 * j' + k) = nI (ztk A j (98 + 9 * j' + k))) → post (nI (A (98 + 9 * j))) w o) : wpX2_removeFirst (nI j) waiting orders (nI (A 2)) post := by
  have hp := zI_pl hI hj
  have h2 := hI.1.2.1
  have h5 := hp.2.2.2.1
  have hst := hp.2.2.2.2 0 h0
  have h12 := hI.1.1
  unfold wpX2_removeFirst
  refine k_waitAt hI hw ho hj (fun k hk ek => ?_) (fun q => absurd ⟨0, h0, rfl⟩ q)
  have ek0 : k = 0 := ((nI_eq (a := 0) (b := k) (by omega) (by omega)).mp ek).symm
  subst ek0
  refine k_pasI h2 hj (br_f (by decide) (br_t (nI_pos' (by omega)) ?_))
  rw [show nI j * 5 = nI (5 * j) by rw [show (5 : Int32) = nI 5 from rfl, pk_mul, Nat.mul_comm]]
  refine pk_loop (fun n i f => wpX2_removeFirst_L28 (nI j) (nI (A 2)) (nI (A (98 + 9 * j + 0))) (nI (5 * j)) waiting post n (nI i) f) (fun i f => 1 ≤ i ∧ ∀ q, f q = if 5 * j ≤ q ∧ q + 1 < 5 * j + i then orders (q + 1) else orders q) 5 1 orders (by omega) ⟨Nat.le_refl _, fun q => by rw [if_neg (by omega)]⟩ ?_ ?_
  · rintro n f ⟨-, hf⟩
    refine br_t (nI_le (b := 5) (Nat.le_refl _) (by omega)) ⟨vp_in_nI (by omega) (by omega), vp_in_nI (by omega) (by omega), ?_⟩
    rw [nI_clamp (by omega), hw j hj]
    try dsimp only
    rw [show nI (A (97 + 9 * j)) - 1 = nI (A (97 + 9 * j) - 1) from pk_sub (b := 1) (by omega), show 98 + 9 * j + 0 = 98 + 9 * j by omega]
    refine h _ _ (fun j' hj' => ?_) (fun j' hj' k hk => ?_)
    · by_cases e : j' = j
      · subst e
        rw [pk_us]
        try dsimp only
        rw [ztk_n]
      · rw [pk_un e, hw j' hj']
        try dsimp only
        rw [ztk_o h5 (by omega)]
        try dsimp only
    · have h5' := (zI_pl hI hj').2.2.2.1
      by_cases e : j' = j
      · subst e
        rw [ztk_n] at hk
        rw [hf, if_pos (by omega), ztk_q (by omega), show 5 * j' + k + 1 = 5 * j' + (k + 1) by omega]
        exact ho j' hj (k + 1) (by omega)
      · rw [ztk_o h5 (by omega)] at hk
        rw [hf, if_neg (by omega), ztk_o h5 (by omega)]
        try dsimp only
        exact ho j' hj' k hk
  · rintro n i f hi ⟨hi1, hf⟩ ih
    refine br_f (nI_ge (b := 5) hi (by omega)) ?_
    rw [nI_add, nI_1, nI_clamp (by omega), show nI (5 * j + i) - 1 = nI (5 * j + i - 1) from pk_sub (b := 1) (by omega), nI_clamp (by omega)]
    refine ⟨vp_in_nI (by omega) (by omega), vp_in_nI (by omega) (by omega), ih _ ⟨by omega, fun q => ?_⟩⟩
    unfold upd
    try dsimp only
    by_cases e : q = 5 * j + i - 1
    · rw [if_pos e, if_pos (by omega), hf, if_neg (by omega), e, show 5 * j + i - 1 + 1 = 5 * j + i by omega]
    · rw [if_neg e, hf]
      by_cases e2 : 5 * j ≤ q ∧ q + 1 < 5 * j + i
      · rw [if_pos e2, if_pos (by omega)]
      · rw [if_neg e2, if_neg (by omega)]
theorem z_nr {A : Nat → Nat} (hI : zI A) {u i : Nat} : (if zcd (zD A u (A (10 + 7 * i))) < zcd (zD A u (A (11 + 7 * i))) then zcd (zD A u (A (10 + 7 * i))) else zcd (zD A u (A (11 + 7 * i)))) = zcd (znr A u i) := by
  have a := (zD_sp hI u).2.2.2.2 (A (10 + 7 * i))
  have b := (zD_sp hI u).2.2.2.2 (A (11 + 7 * i))
  unfold znr
  by_cases e : zD A u (A (10 + 7 * i)) < zD A u (A (11 + 7 * i))
  · rw [if_pos e, if_pos ((zcd_lt a b).mpr e)]
  · rw [if_neg e, if_neg (fun q => e ((zcd_lt a b).mp q))]
theorem k_minutesFor {A : Nat → Nat} (hI : zI A) {s_lower s_higher s_size q_place : Nat → Int32} (hl : zL s_lower (A 1) (fun i => A (10 + 7 * i))) (hh : zL s_higher (A 1) (fun i => A (11 + 7 * i))) (hz : zL s_size (A 1) (fun i => A (13 + 7 * i))) (hpl : zL q_place (A 2) (fun j => A (94 + 9 * j)))
    {j i : Nat} (hj : j < A 2) (hi : i < A 1) {w_reach w_settled : Nat → Int32} {post : Int32 → (Nat → Int32) → (Nat → Int32) → Prop}
    (h : ∀ f g, zL f 8 (fun v => zcd (zD A (A (94 + 9 * j)) v)) → (znr A (A (94 + 9 * j)) i < 9999 → post (nI (2 * znr A (A (94 + 9 * j)) i + 4 * A (13 + 7 * i))) f g) ∧ (¬ znr A (A (94 + 9 * j)) i < 9999 → post 1000000 f g)) :
    wpX5_minutesFor (nI j) (nI i) w_reach w_settled s_lower s_higher s_size (nI (A 1)) q_place (nI (A 2)) post := by
  have hI1 := hI.1
  have hp := zI_pl hI hj
  have hs := hI.2.1 i hi
  unfold wpX5_minutesFor
  refine k_pasI hI1.2.1 hj (br_f (by decide) (k_hasI hI1.1 hi (br_n (by decide) ⟨vp_in_nI (by omega) (by omega), ?_⟩)))
  rw [nI_clamp (by omega), hpl j hj]
  try dsimp only
  refine k_meas hI hl hh hz hp.1 (fun f g hf => ⟨vp_in_nI (by omega) (by omega), ?_⟩)
  rw [nI_clamp (by omega), hl i hi, hh i hi, hz i hi]
  try dsimp only
  refine k_reach hf (by omega) ⟨vp_in_nI (by omega) (by omega), k_reach hf (by omega) ?_⟩
  try dsimp only
  rw [z_min (by have := @zcd_le (zD A (A (94 + 9 * j)) (A (10 + 7 * i))); omega) (by have := @zcd_le (zD A (A (94 + 9 * j)) (A (11 + 7 * i))); omega), z_nr hI]
  have h9 := h f g hf
  by_cases e : znr A (A (94 + 9 * j)) i < 9999
  · have hn := znr_le hI hi e
    rw [show zcd (znr A (A (94 + 9 * j)) i) = znr A (A (94 + 9 * j)) i from if_pos e]
    refine br_t (nI_lt (b := 1000000) (by omega) (by omega)) ⟨vp_in_nI (by omega) (by omega), ?_⟩
    rw [show (2 : Int32) = nI 2 from rfl, show (4 : Int32) = nI 4 from rfl, pk_mul, pk_mul, nI_add]
    exact h9.1 e
  · rw [show zcd (znr A (A (94 + 9 * j)) i) = 1000000 from if_neg e]
    exact br_f (nI_nlt (a := 1000000) (b := 1000000) (Nat.le_refl _) (by omega)) (h9.2 e)
/-- the cells that an order's begin writes -/
theorem zQ_bg {A : Nat → Nat} (hI : zI A) {j u i : Nat} (hj : j < A 2) (hf : znr A u i < 9999) {place target ml waiting orders : Nat → Int32} (h : zQ A place target ml waiting orders (nI (A 2))) :
    zQ (zbg A j u i) (upd place j (nI (if zD A u (A (10 + 7 * i)) ≤ zD A u (A (11 + 7 * i)) then A (11 + 7 * i) else A (10 + 7 * i)))) (upd target j (nI i)) (upd ml j (nI (2 * znr A u i + 4 * A (13 + 7 * i)))) waiting orders (nI (zbg A j u i 2)) := by
  obtain ⟨-, h1, h2, h3, h4, h5⟩ := h
  have hA := hI.1
  have e2 : zbg A j u i 2 = A 2 := zbg_o (by omega) (by omega)
  unfold zQ
  rw [e2]
  refine ⟨rfl, fun j' hj' => ?_, fun j' hj' hb => ?_, fun j' hj' => ?_, fun j' hj' => ?_, fun j' hj' k hk => ?_⟩
  · by_cases e : j' = j
    · subst e
      rw [pk_us]
      try dsimp only
      unfold zbg
      rw [if_pos hf, zu_s]
    · rw [pk_un e, h1 j' hj']
      try dsimp only
      rw [zbg_o (by omega) (by omega)]
      try dsimp only
  · by_cases e : j' = j
    · subst e
      rw [pk_us]
      unfold zbg
      rw [if_pos hf, zu_n (by omega), zu_s]
    · rw [zbg_o (by omega) (by omega)] at hb ⊢
      rw [pk_un e]
      exact h2 j' hj' hb
  · by_cases e : j' = j
    · subst e
      rw [pk_us]
      try dsimp only
      unfold zbg
      rw [if_pos hf, zu_n (by omega), zu_n (by omega), zu_s]
    · rw [pk_un e, h3 j' hj']
      try dsimp only
      rw [zbg_o (by omega) (by omega)]
      try dsimp only
  · rw [h4 j' hj']
    try dsimp only
    rw [zbg_o (by omega) (by omega)]
    try dsimp only
  · have h55 := (zI_pl hI hj').2.2.2.1
    rw [zbg_o (by omega) (by omega)] at hk
    rw [zbg_o (by omega) (by omega)]
    try dsimp only
    exact h5 j' hj' k hk
theorem zQ_nobg {A : Nat → Nat} {j u i : Nat} (hA : A 2 ≤ 4) (hf : ¬ znr A u i < 9999) {place target ml waiting orders : Nat → Int32} (h : zQ A place target ml waiting orders (nI (A 2))) : zQ (zbg A j u i) place target ml waiting orders (nI (zbg A j u i 2)) := by
  have he : ∀ k, k ≠ 8 → zbg A j u i k = A k := by
    intro k hk
    unfold zbg
    rw [if_neg hf, zu_n hk]
  obtain ⟨-, h1, h2, h3, h4, h5⟩ := h
  unfold zQ
  rw [he 2 (by omega)]
  try dsimp only
  refine ⟨rfl, fun j' hj' => ?_, fun j' hj' hb => ?_, fun j' hj' => ?_, fun j' hj' => ?_, fun j' hj' k hk => ?_⟩
  · rw [h1 j' hj']
    try dsimp only
    rw [he _ (by omega)]
    try dsimp only
  · rw [he _ (by omega)] at hb ⊢
    exact h2 j' hj' hb
  · rw [h3 j' hj']
    try dsimp only
    rw [he _ (by omega)]
    try dsimp only
  · rw [h4 j' hj']
    try dsimp only
    rw [he _ (by omega)]
    try dsimp only
  · rw [he _ (by omega)] at hk ⊢
    exact h5 j' hj' k hk
theorem zQ_tk {A : Nat → Nat} (hI : zI A) {j : Nat} (hj : j < A 2) {place target ml waiting orders w o : Nat → Int32} (h : zQ A place target ml waiting orders (nI (A 2))) (hw : zL w (A 2) (fun j' => ztk A j (97 + 9 * j'))) (ho : ∀ j' : Nat, j' < A 2 → ∀ k : Nat, k < ztk A j (97 + 9 * j') → o (5 * j' + k) = nI (ztk A j (98 + 9 * j' + k))) : zQ (ztk A j) place target ml w o (nI (ztk A j 2)) := by
  have h5 := (zI_pl hI hj).2.2.2.1
  have hA := hI.1
  obtain ⟨-, h1, h2, h3, h4, -⟩ := h
  unfold zQ
  rw [ztk_o h5 (by omega)]
  try dsimp only
  refine ⟨rfl, fun j' hj' => ?_, fun j' hj' hb => ?_, fun j' hj' => ?_, hw, ho⟩
  · rw [h1 j' hj']
    try dsimp only
    rw [ztk_o h5 (by omega)]
    try dsimp only
  · rw [ztk_o h5 (by omega)] at hb ⊢
    exact h2 j' hj' hb
  · rw [h3 j' hj']
    try dsimp only
    rw [ztk_o h5 (by omega)]
    try dsimp only
theorem k_beginOrder {A : Nat → Nat} (hI : zI A) {s_lower s_higher s_size : Nat → Int32} (hl : zL s_lower (A 1) (fun i => A (10 + 7 * i))) (hh : zL s_higher (A 1) (fun i => A (11 + 7 * i))) (hz : zL s_size (A 1) (fun i => A (13 + 7 * i)))
    {place target ml waiting orders : Nat → Int32} (hQ : zQ A place target ml waiting orders (nI (A 2))) {j : Nat} (hj : j < A 2) (h0 : 0 < A (97 + 9 * j)) {w_reach w_settled : Nat → Int32} {post : Int32 → (Nat → Int32) → (Nat → Int32) → (Nat → Int32) → (Nat → Int32) → (Nat → Int32) → (Nat → Int32) → (Nat → Int32) → Prop}
    (h : ∀ f g p t m w o, zQ (zta A j) p t m w o (nI (A 2)) → post (nI (zta A j 8)) f g p t m w o) :
    wpX5_beginOrder (nI j) (nI (A 8)) w_reach w_settled s_lower s_higher s_size (nI (A 1)) place target ml waiting orders (nI (A 2)) post := by
  have hA := hI.1
  have hp := zI_pl hI hj
  have h5 := hp.2.2.2.1
  have hst := hp.2.2.2.2 0 h0
  rw [show 98 + 9 * j + 0 = 98 + 9 * j by omega] at hst
  have hIk := ztk_I hI hj
  have hsk := ztk_same hI hj
  have ek : ∀ k : Nat, k < 94 + 9 * j + 3 → ztk A j k = A k := fun k hk => ztk_o h5 (by omega)
  have e1 : ztk A j 1 = A 1 := ek 1 (by omega)
  have e2 : ztk A j 2 = A 2 := ek 2 (by omega)
  have eT : zta A j 2 = A 2 := (zta_same hI hj).1 2 (by omega)
  unfold wpX5_beginOrder
  refine k_rmFirst hI hQ.2.2.2.2.1 hQ.2.2.2.2.2 hj h0 (fun w o hw ho => ?_)
  have hQk := zQ_tk hI hj hQ hw ho
  rw [e2] at hQk
  have hsi := hIk.2.1 (A (98 + 9 * j)) (by rw [e1]; exact hst)
  have hl' : zL s_lower (ztk A j 1) (fun i => ztk A j (10 + 7 * i)) := by rw [e1]; intro i hi; rw [hl i hi]; dsimp only; rw [ek _ (by omega)]
  have hh' : zL s_higher (ztk A j 1) (fun i => ztk A j (11 + 7 * i)) := by rw [e1]; intro i hi; rw [hh i hi]; dsimp only; rw [ek _ (by omega)]
  have hz' : zL s_size (ztk A j 1) (fun i => ztk A j (13 + 7 * i)) := by rw [e1]; intro i hi; rw [hz i hi]; dsimp only; rw [ek _ (by omega)]
  have hpl' : zL place (ztk A j 2) (fun j' => ztk A j (94 + 9 * j')) := hQk.2.1
  have hm := k_minutesFor (post := fun r2 w_reach_v2 w_settled_v2 => ((1000000 ≤ r2 → post (nI (A 8) + 1) w_reach_v2 w_settled_v2 place target ml w o) ∧
  (¬ 1000000 ≤ r2 → wpX4_has (nI (A (98 + 9 * j))) (nI (A 1)) (fun r3 => ((¬ r3 = 0 → (vp_in (nI (A (98 + 9 * j))) 12 ∧
  (vp_in (nI (A (98 + 9 * j))) 12 ∧
  wpX1_reachOf (s_lower (nI (A (98 + 9 * j))).toNatClampNeg) w_reach_v2 (fun r6 => wpX1_reachOf (s_higher (nI (A (98 + 9 * j))).toNatClampNeg) w_reach_v2 (fun r7 => ((r7 < r6 → wpX5_beginOrder_L92 (nI j) s_lower s_higher s_size (nI (A 1)) (nI (A 2)) post 0 (nI (A (98 + 9 * j))) r2 (s_lower (nI (A (98 + 9 * j))).toNatClampNeg) (s_higher (nI (A (98 + 9 * j))).toNatClampNeg) (nI (A 8)) w_reach_v2 w_settled_v2 place target ml w o) ∧
  (¬ r7 < r6 → wpX5_beginOrder_L92 (nI j) s_lower s_higher s_size (nI (A 1)) (nI (A 2)) post 1 (nI (A (98 + 9 * j))) r2 (s_lower (nI (A (98 + 9 * j))).toNatClampNeg) (s_higher (nI (A (98 + 9 * j))).toNatClampNeg) (nI (A 8)) w_reach_v2 w_settled_v2 place target ml w o))))))) ∧
  (r3 = 0 → post (nI (A 8) + 1) w_reach_v2 w_settled_v2 place target ml w o)))))) hIk hl' hh' hz' hpl' (j := j) (i := A (98 + 9 * j)) (w_reach := w_reach) (w_settled := w_settled) (by rw [e2]; exact hj) (by rw [e1]; exact hst) ?_
  · rw [e1, e2] at hm
    exact hm
  · intro f g hf
    rw [ek (94 + 9 * j) (by omega)] at hf ⊢
    have e8 : ztk A j 8 = A 8 := ek 8 (by omega)
    constructor
    · intro hn
      have hn63 := znr_le hIk (by rw [e1]; exact hst) hn
      refine br_f (nI_ge (b := 1000000) (by omega) (by omega)) (k_hasI hA.1 hst (br_n (by decide) ⟨vp_in_nI (by omega) (by omega), vp_in_nI (by omega) (by omega), ?_⟩))
      rw [nI_clamp (by omega), hl _ hst, hh _ hst]
      try dsimp only
      rw [← ek (10 + 7 * A (98 + 9 * j)) (by omega), ← ek (11 + 7 * A (98 + 9 * j)) (by omega)]
      refine k_reach hf (by omega) (k_reach hf (by omega) ?_)
      try dsimp only
      have la := (zD_sp hIk (A (94 + 9 * j))).2.2.2.2 (ztk A j (10 + 7 * A (98 + 9 * j)))
      have lb := (zD_sp hIk (A (94 + 9 * j))).2.2.2.2 (ztk A j (11 + 7 * A (98 + 9 * j)))
      have za := @zcd_le (zD (ztk A j) (A (94 + 9 * j)) (ztk A j (10 + 7 * A (98 + 9 * j))))
      have zb := @zcd_le (zD (ztk A j) (A (94 + 9 * j)) (ztk A j (11 + 7 * A (98 + 9 * j))))
      have hQb := zQ_bg hIk (j := j) (by rw [e2]; exact hj) hn (by rw [e2]; exact hQk)
      have eB : zbg (ztk A j) j (A (94 + 9 * j)) (A (98 + 9 * j)) = zta A j := rfl
      rw [eB, eT] at hQb
      have h9 : zta A j 8 = A 8 := by rw [← eB]; unfold zbg; rw [if_pos hn, zu_n (by omega), zu_n (by omega), zu_n (by omega), e8]
      by_cases e : zD (ztk A j) (A (94 + 9 * j)) (ztk A j (10 + 7 * A (98 + 9 * j))) ≤ zD (ztk A j) (A (94 + 9 * j)) (ztk A j (11 + 7 * A (98 + 9 * j)))
      · rw [if_pos e] at hQb
        refine br_f (nI_nlt (by have := (zcd_lt (a := zD (ztk A j) (A (94 + 9 * j)) (ztk A j (11 + 7 * A (98 + 9 * j)))) (b := zD (ztk A j) (A (94 + 9 * j)) (ztk A j (10 + 7 * A (98 + 9 * j)))) lb la); omega) (by omega)) ?_
        unfold wpX5_beginOrder_L92
        refine br_f (by decide) ?_
        unfold wpX2_begin
        refine k_pasI hA.2.1 hj (br_f (by decide) ⟨vp_in_nI (by omega) (by omega), vp_in_nI (by omega) (by omega), vp_in_nI (by omega) (by omega), ?_⟩)
        rw [nI_clamp (by omega), ← h9]
        exact h _ _ _ _ _ _ _ hQb
      · rw [if_neg e] at hQb
        refine br_t (nI_lt ((zcd_lt lb la).mpr (by omega)) (by omega)) ?_
        unfold wpX5_beginOrder_L92
        refine br_t rfl ?_
        unfold wpX2_begin
        refine k_pasI hA.2.1 hj (br_f (by decide) ⟨vp_in_nI (by omega) (by omega), vp_in_nI (by omega) (by omega), vp_in_nI (by omega) (by omega), ?_⟩)
        rw [nI_clamp (by omega), ← h9]
        exact h _ _ _ _ _ _ _ hQb
    · intro hn
      refine br_t (nI_le (a := 1000000) (b := 1000000) (Nat.le_refl _) (by omega)) ?_
      have hQb := zQ_nobg (A := ztk A j) (j := j) (by rw [e2]; exact hA.2.1) hn (by rw [e2]; exact hQk)
      have eB : zbg (ztk A j) j (A (94 + 9 * j)) (A (98 + 9 * j)) = zta A j := rfl
      rw [eB, eT] at hQb
      have h9 : zta A j 8 = A 8 + 1 := by rw [← eB]; unfold zbg; rw [if_neg hn, zu_s, e8]
      rw [nI_1, ← h9]
      exact h _ _ _ _ _ _ _ hQb
theorem k_canBegin {A : Nat → Nat} (hI : zI A) {ml waiting : Nat → Int32} (hm : zL ml (A 2) (fun j => A (95 + 9 * j))) (hw : zL waiting (A 2) (fun j => A (97 + 9 * j))) {j : Nat} (hj : j < A 2) {post : Int32 → Prop} (h1 : A (95 + 9 * j) = 0 ∧ 0 < A (97 + 9 * j) → post 1) (h0 : ¬ (A (95 + 9 * j) = 0 ∧ 0 < A (97 + 9 * j)) → post 0) : wpX2_canBegin (nI j) ml waiting (nI (A 2)) post := by
  have hp := zI_pl hI hj
  have hA := hI.1
  unfold wpX2_canBegin
  refine k_pasI hA.2.1 hj (br_f (by decide) ⟨vp_in_nI (by omega) (by omega), ?_⟩)
  rw [nI_clamp (by omega), hm j hj, hw j hj]
  try dsimp only
  by_cases e : A (95 + 9 * j) = 0
  · refine br_m (by rw [e]; rfl) ⟨vp_in_nI (by omega) (by omega), ?_⟩
    by_cases e2 : 0 < A (97 + 9 * j)
    · exact br_f (nI_nle e2 (by have := hp.2.2.2.1; omega)) (h1 ⟨e, e2⟩)
    · exact br_t (by rw [show A (97 + 9 * j) = 0 by omega]; decide) (h0 (by omega))
  · exact br_n (nI_ne0 (by omega) (by have := hp.2.1; omega)) (h0 (by omega))
/-- the cells that a town's minutes change in the class -/
def zV (A C : Nat → Nat) (cleared ploughed failed : Int32) (snow clearings place target ml waiting orders : Nat → Int32) : Prop :=
  cleared = nI (A 6) ∧ ploughed = nI (A 7) ∧ failed = nI (A 8) ∧ zL snow (A 1) (fun i => A (14 + 7 * i)) ∧ zL clearings (A 1) C ∧ zQ A place target ml waiting orders (nI (A 2))
theorem k_work {A C : Nat → Nat} (hI : zI A) {cleared ploughed failed : Int32} {snow clearings place target ml waiting orders : Nat → Int32} (hV : zV A C cleared ploughed failed snow clearings place target ml waiting orders) {j : Nat} (hj : j < A 2) {K : Int32 → Int32 → (Nat → Int32) → (Nat → Int32) → (Nat → Int32) → Prop}
    (h : ∀ c p sn cl m, zV (zwk2 A j) (fun i => C i + if (if A (95 + 9 * j) = 1 then A (96 + 9 * j) else 99) = i then 1 else 0) c p failed sn cl place target m waiting orders → K c p sn cl m) :
    wpX2_work (nI j) target ml (nI (A 2)) (fun r m => wpX5_clearStreet r cleared ploughed snow clearings (nI (A 1)) (fun c p sn cl => K c p sn cl m)) := by
  have hp := zI_pl hI hj
  have hA := hI.1
  obtain ⟨v1, v2, v3, v4, v5, -, q1, q2, q3, q4, q5⟩ := hV
  have hnone : ∀ (K : Int32 → Int32 → (Nat → Int32) → (Nat → Int32) → Prop), K cleared ploughed snow clearings → wpX5_clearStreet (-1) cleared ploughed snow clearings (nI (A 1)) K := by
    intro K hK
    unfold wpX5_clearStreet
    refine k_has hA.1 (fun a ha e => ?_) (fun _ => br_t rfl hK)
    exact absurd (show (-1 : Int32).toInt = (nI a).toInt by rw [← e]) (by rw [nI_toInt (by omega), show (-1 : Int32).toInt = -1 from rfl]; omega)
  unfold wpX2_work
  refine k_pasI hA.2.1 hj (br_f (by decide) ⟨vp_in_nI (by omega) (by omega), ?_⟩)
  rw [nI_clamp (by omega), q3 j hj]
  try dsimp only
  have h200 := hp.2.1
  by_cases e0 : A (95 + 9 * j) = 0
  · refine br_f (by rw [e0]; decide) (hnone _ (h _ _ _ _ _ ?_))
    have eC : (fun i => C i + if (if A (95 + 9 * j) = 1 then A (96 + 9 * j) else 99) = i then 1 else 0) = fun i => C i + if 99 = i then 1 else 0 := by
      funext i
      rw [if_neg (show ¬ A (95 + 9 * j) = 1 by omega)]
    have eW : zwk2 A j = A := by unfold zwk2; rw [if_pos e0]
    rw [eW, eC]
    refine ⟨v1, v2, v3, v4, fun i hi => ?_, rfl, q1, q2, q3, q4, q5⟩
    rw [v5 i hi]
    try dsimp only
    rw [if_neg (by omega)]
    rfl
  · refine br_t (nI_lt (a := 0) (by omega) (by omega)) ⟨vp_in_nI (by omega) (by omega), vp_in_nI (by omega) (by omega), vp_in_nI (by omega) (by omega), ?_⟩
    rw [pk_us, show nI (A (95 + 9 * j)) - 1 = nI (A (95 + 9 * j) - 1) from pk_sub (b := 1) (by omega)]
    by_cases e1 : A (95 + 9 * j) = 1
    · refine br_m (by rw [e1]; rfl) ⟨vp_in_nI (by omega) (by omega), ?_⟩
      have hst := hp.2.2.1 (by omega)
      have hs := hI.2.1 _ hst
      rw [q2 j hj (by omega)]
      unfold wpX5_clearStreet
      refine k_hasI hA.1 hst (br_f (by decide) ⟨vp_in_nI (by omega) (by omega), vp_in_nI (by omega) (by omega), vp_in_nI (by omega) (by omega), vp_in_nI (by omega) (by omega), ?_⟩)
      rw [nI_clamp (by omega), v4 _ hst, v5 _ hst, v1, v2]
      try dsimp only
      rw [nI_1, nI_add, nI_1, show (0 : Int32) = nI 0 from rfl]
      have eW : zwk2 A j = zu (zcl (zu A (95 + 9 * j) 0) (A (96 + 9 * j))) (96 + 9 * j) 0 := by unfold zwk2; rw [if_neg e0, if_pos e1]
      have eo : ∀ k, k ≠ 6 → k ≠ 7 → k ≠ 14 + 7 * A (96 + 9 * j) → k ≠ 95 + 9 * j → k ≠ 96 + 9 * j → zwk2 A j k = A k := by
        intro k a1 a2 a3 a4 a5
        rw [eW, zu_n a5, zcl_o (by omega) a3, zu_n a4]
      refine h _ _ _ _ _ ⟨?_, ?_, by rw [eo 8 (by omega) (by omega) (by omega) (by omega) (by omega)]; exact v3, ?_, ?_, ?_⟩
      · rw [eW, zu_n (by omega)]
        unfold zcl
        rw [zu_n (by omega), zu_n (by omega), zu_s, zu_n (by omega)]
      · rw [eW, zu_n (by omega)]
        unfold zcl
        rw [zu_n (by omega), zu_s, zu_n (by omega), zu_n (by omega)]
      · rw [eo 1 (by omega) (by omega) (by omega) (by omega) (by omega)]
        intro i hi
        by_cases e : i = A (96 + 9 * j)
        · subst e
          rw [pk_us]
          try dsimp only
          rw [eW, zu_n (by omega)]
          unfold zcl
          rw [zu_s]
        · rw [pk_un e, v4 i hi]
          try dsimp only
          rw [eo _ (by omega) (by omega) (by omega) (by omega) (by omega)]
      · rw [eo 1 (by omega) (by omega) (by omega) (by omega) (by omega)]
        intro i hi
        try dsimp only
        rw [if_pos e1]
        by_cases e : i = A (96 + 9 * j)
        · subst e
          rw [pk_us, if_pos rfl]
        · rw [pk_un e, v5 i hi, if_neg (fun q => e q.symm)]
          try dsimp only
          rfl
      · unfold zQ
        rw [eo 2 (by omega) (by omega) (by omega) (by omega) (by omega)]
        refine ⟨rfl, fun j' hj' => ?_, fun j' hj' hb => ?_, fun j' hj' => ?_, fun j' hj' => ?_, fun j' hj' k hk => ?_⟩
        · rw [q1 j' hj']
          try dsimp only
          rw [eo _ (by omega) (by omega) (by omega) (by omega) (by omega)]
        · by_cases e : j' = j
          · subst e
            rw [eW, zu_n (by omega), zcl_o (by omega) (by omega), zu_s] at hb
            omega
          · rw [eo _ (by omega) (by omega) (by omega) (by omega) (by omega)] at hb
            rw [eo _ (by omega) (by omega) (by omega) (by omega) (by omega)]
            exact q2 j' hj' hb
        · by_cases e : j' = j
          · subst e
            rw [pk_us]
            try dsimp only
            rw [eW, zu_n (by omega), zcl_o (by omega) (by omega), zu_s, e1]
            try dsimp only
          · rw [pk_un e, q3 j' hj']
            try dsimp only
            rw [eo _ (by omega) (by omega) (by omega) (by omega) (by omega)]
        · rw [q4 j' hj']
          try dsimp only
          rw [eo _ (by omega) (by omega) (by omega) (by omega) (by omega)]
        · have h5 := (zI_pl hI hj').2.2.2.1
          rw [eo _ (by omega) (by omega) (by omega) (by omega) (by omega)] at hk
          rw [eo _ (by omega) (by omega) (by omega) (by omega) (by omega)]
          exact q5 j' hj' k hk
    · refine br_n (nI_ne0 (by omega) (by omega)) (hnone _ (h _ _ _ _ _ ?_))
      have eW : zwk2 A j = zu A (95 + 9 * j) (A (95 + 9 * j) - 1) := by unfold zwk2; rw [if_neg e0, if_neg e1]
      have eo : ∀ k, k ≠ 95 + 9 * j → zwk2 A j k = A k := fun k hk => by rw [eW, zu_n hk]
      refine ⟨by rw [eo 6 (by omega)]; exact v1, by rw [eo 7 (by omega)]; exact v2, by rw [eo 8 (by omega)]; exact v3, ?_, ?_, ?_⟩
      · rw [eo 1 (by omega)]
        try dsimp only
        intro i hi
        rw [v4 i hi]
        try dsimp only
        rw [eo _ (by omega)]
        try dsimp only
      · rw [eo 1 (by omega)]
        try dsimp only
        intro i hi
        rw [v5 i hi]
        try dsimp only
        rw [if_neg e1, if_neg (by omega)]
        rfl
      · unfold zQ
        rw [eo 2 (by omega)]
        try dsimp only
        refine ⟨rfl, fun j' hj' => ?_, fun j' hj' hb => ?_, fun j' hj' => ?_, fun j' hj' => ?_, fun j' hj' k hk => ?_⟩
        · rw [q1 j' hj']
          try dsimp only
          rw [eo _ (by omega)]
          try dsimp only
        · by_cases e : j' = j
          · subst e
            rw [eo _ (by omega)]
            try dsimp only
            exact q2 j' hj' (by omega)
          · rw [eo _ (by omega)] at hb
            rw [eo _ (by omega)]
            try dsimp only
            exact q2 j' hj' hb
        · by_cases e : j' = j
          · subst e
            rw [pk_us]
            try dsimp only
            rw [eW, zu_s]
          · rw [pk_un e, q3 j' hj']
            try dsimp only
            rw [eo _ (by omega)]
            try dsimp only
        · rw [q4 j' hj']
          try dsimp only
          rw [eo _ (by omega)]
          try dsimp only
        · have h5 := (zI_pl hI hj').2.2.2.1
          rw [eo _ (by omega)] at hk
          rw [eo _ (by omega)]
          try dsimp only
          exact q5 j' hj' k hk

