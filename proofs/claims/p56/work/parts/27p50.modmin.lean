/-! the reference: orders, minutes -/
theorem m_minutes {A : Nat → Nat} (hI : zI A) {m m_far : Nat → Int32} (hM : zM A m) {u i : Nat} (hu : u < 8) (hi : i < A 1) {post : Int32 → (Nat → Int32) → Prop}
    (h : ∀ f, zL f 8 (zD A u) → (znr A u i < 9999 → post (nI (2 * znr A u i + 4 * A (13 + 7 * i))) f) ∧ (¬ znr A u i < 9999 → post (-1) f)) : wpX7_minutes (nI u) (nI i) m m_far post := by
  have hA := hI.1
  have hs := hI.2.1 i hi
  unfold wpX7_minutes
  refine m_finds hI hM hu (fun f hf => m_of hM i 0 rfl (by omega) ?_)
  rw [show 10 + 7 * i + 0 = 10 + 7 * i by omega]
  refine ⟨vp_in_nI (by omega) (by omega), m_of hM i 1 rfl (by omega) ?_⟩
  rw [show 10 + 7 * i + 1 = 11 + 7 * i by omega]
  refine ⟨vp_in_nI (by omega) (by omega), ?_⟩
  rw [nI_clamp (by omega), nI_clamp (by omega), hf _ (by omega), hf _ (by omega)]
  try dsimp only
  have a := (zD_sp hI u).2.2.2.2 (A (10 + 7 * i))
  have b := (zD_sp hI u).2.2.2.2 (A (11 + 7 * i))
  refine m_lesser (by omega) (by omega) ?_
  have h9 := h f hf
  have en : (if zD A u (A (10 + 7 * i)) < zD A u (A (11 + 7 * i)) then zD A u (A (10 + 7 * i)) else zD A u (A (11 + 7 * i))) = znr A u i := rfl
  rw [en]
  have hnle : znr A u i ≤ 9999 := by rw [← en]; split <;> omega
  by_cases e : znr A u i < 9999
  · have hn := znr_le hI hi e
    refine br_t (nI_lt (b := 9999) e (by omega)) (m_of hM i 3 rfl (by omega) ?_)
    rw [show 10 + 7 * i + 3 = 13 + 7 * i by omega, show (2 : Int32) = nI 2 from rfl, show (4 : Int32) = nI 4 from rfl, pk_mul, pk_mul, nI_add]
    exact h9.1 e
  · exact br_f (nI_nlt (b := 9999) (by omega) (by omega)) (h9.2 e)
theorem m_takes {A : Nat → Nat} (hI : zI A) {m m_far : Nat → Int32} (hM : zM A m) {j : Nat} (hj : j < A 2) (h0 : 0 < A (97 + 9 * j)) {post : (Nat → Int32) → (Nat → Int32) → Prop} (h : ∀ m' f, zM (zta A j) m' → post m' f) : wpX7_takes (nI j) m m_far post := by
  have hA := hI.1
  have hp := zI_pl hI hj
  have h5 := hp.2.2.2.1
  have hst := hp.2.2.2.2 0 h0
  rw [show 98 + 9 * j + 0 = 98 + 9 * j by omega] at hst
  have hIk := ztk_I hI hj
  have ek : ∀ k : Nat, k < 97 + 9 * j → ztk A j k = A k := fun k hk => ztk_o h5 (by omega)
  have e1 : ztk A j 1 = A 1 := ek 1 (by omega)
  have e2 : ztk A j 2 = A 2 := ek 2 (by omega)
  unfold wpX7_takes
  refine m_ofP hM j 4 rfl (by omega) (m_ofP hM j 3 rfl (by omega) ?_)
  rw [show 94 + 9 * j + 4 = 98 + 9 * j by omega, show 94 + 9 * j + 3 = 97 + 9 * j by omega, show nI (A (97 + 9 * j)) - 1 = nI (A (97 + 9 * j) - 1) from pk_sub (b := 1) (by omega)]
  refine pk_loop (fun n i f => wpX7_takes_L19 (nI j) (nI (A (98 + 9 * j))) (nI (A (97 + 9 * j) - 1)) m_far post n (nI i) f) (fun i f => zM (fun q => if 98 + 9 * j ≤ q ∧ q < 98 + 9 * j + i then A (q + 1) else A q) f) (A (97 + 9 * j) - 1) 0 m (Nat.zero_le _) (zM_eq hM (fun k _ => by rw [if_neg (by omega)])) ?_ ?_
  · intro n f hf
    refine br_t (nI_le (Nat.le_refl _) (by omega)) (m_setsP hf j (4 + (A (97 + 9 * j) - 1)) 0 (nI_add 4 _) rfl (by omega) (fun m3 h3 => m_setsP h3 j 3 (A (97 + 9 * j) - 1) rfl rfl (by omega) (fun m4 h4 => ?_)))
    have hk4 : zM (ztk A j) m4 := by
      refine zM_eq h4 (fun k _ => ?_)
      unfold zu ztk
      try dsimp only
      by_cases q1 : k = 94 + 9 * j + 3
      · rw [if_pos q1, if_pos (by omega), show k = 97 + 9 * j by omega]
      · rw [if_neg q1, if_neg (show ¬ k = 97 + 9 * j by omega)]
        by_cases q2 : k = 94 + 9 * j + (4 + (A (97 + 9 * j) - 1))
        · rw [if_pos q2, if_neg (show ¬ (98 + 9 * j ≤ k ∧ k < 98 + 9 * j + (A (97 + 9 * j) - 1)) by omega), if_pos (show k = 98 + 9 * j + (A (97 + 9 * j) - 1) by omega)]
        · rw [if_neg q2]
          by_cases q3 : 98 + 9 * j ≤ k ∧ k < 98 + 9 * j + (A (97 + 9 * j) - 1)
          · rw [if_pos q3, if_pos q3]
          · rw [if_neg q3, if_neg q3, if_neg (show ¬ k = 98 + 9 * j + (A (97 + 9 * j) - 1) by omega)]
    refine m_ofP hk4 j 0 rfl (by omega) ?_
    rw [show 94 + 9 * j + 0 = 94 + 9 * j by omega, ek (94 + 9 * j) (by omega)]
    try dsimp only
    have eB : zbg (ztk A j) j (A (94 + 9 * j)) (A (98 + 9 * j)) = zta A j := rfl
    have hsi := hIk.2.1 (A (98 + 9 * j)) (by rw [e1]; exact hst)
    refine m_minutes hIk hk4 hp.1 (by rw [e1]; exact hst) (fun f6 hf6 => ⟨fun hn => ?_, fun hn => ?_⟩)
    · have hn63 := znr_le hIk (by rw [e1]; exact hst) hn
      refine br_t (nI_pos' (by omega)) (m_of hk4 (A (98 + 9 * j)) 0 rfl (by omega) ?_)
      rw [show 10 + 7 * A (98 + 9 * j) + 0 = 10 + 7 * A (98 + 9 * j) by omega]
      refine ⟨vp_in_nI (by omega) (by omega), m_of hk4 (A (98 + 9 * j)) 1 rfl (by omega) ?_⟩
      rw [show 10 + 7 * A (98 + 9 * j) + 1 = 11 + 7 * A (98 + 9 * j) by omega]
      refine ⟨vp_in_nI (by omega) (by omega), ?_⟩
      rw [nI_clamp (by omega), nI_clamp (by omega), hf6 _ (by omega), hf6 _ (by omega)]
      try dsimp only
      have la := (zD_sp hIk (A (94 + 9 * j))).2.2.2.2 (ztk A j (10 + 7 * A (98 + 9 * j)))
      have lb := (zD_sp hIk (A (94 + 9 * j))).2.2.2.2 (ztk A j (11 + 7 * A (98 + 9 * j)))
      have hend : ∀ z0 v, (z0 = 0 → v = ztk A j (10 + 7 * A (98 + 9 * j))) → (¬ z0 = 0 → v = ztk A j (11 + 7 * A (98 + 9 * j))) → (if zD (ztk A j) (A (94 + 9 * j)) (ztk A j (10 + 7 * A (98 + 9 * j))) ≤ zD (ztk A j) (A (94 + 9 * j)) (ztk A j (11 + 7 * A (98 + 9 * j))) then ztk A j (11 + 7 * A (98 + 9 * j)) else ztk A j (10 + 7 * A (98 + 9 * j))) = v → wpX7_takes_L127 (nI j) post z0 (nI (A (98 + 9 * j))) (nI (2 * znr (ztk A j) (A (94 + 9 * j)) (A (98 + 9 * j)) + 4 * ztk A j (13 + 7 * A (98 + 9 * j)))) m4 f6 := by
        intro z0 v hz hnz hv
        unfold wpX7_takes_L127
        refine m_setsP hk4 j 1 _ rfl rfl (by omega) (fun m11 h11 => m_setsP h11 j 2 _ rfl rfl (by omega) (fun m12 h12 => ⟨fun q => ?_, fun q => ?_⟩))
        · refine m_of h12 (A (98 + 9 * j)) 0 rfl (by omega) (m_setsP h12 j 0 _ rfl rfl (by omega) (fun m14 h14 => h _ _ (zM_eq h14 (fun k _ => ?_))))
          rw [← eB]
          unfold zbg
          rw [if_pos hn, hv, hz q, zu_n (show 10 + 7 * A (98 + 9 * j) + 0 ≠ 94 + 9 * j + 2 by omega), zu_n (show 10 + 7 * A (98 + 9 * j) + 0 ≠ 94 + 9 * j + 1 by omega), show 94 + 9 * j + 0 = 94 + 9 * j by omega, show 94 + 9 * j + 1 = 95 + 9 * j by omega, show 94 + 9 * j + 2 = 96 + 9 * j by omega, show 10 + 7 * A (98 + 9 * j) + 0 = 10 + 7 * A (98 + 9 * j) by omega]
        · refine m_of h12 (A (98 + 9 * j)) 1 rfl (by omega) (m_setsP h12 j 0 _ rfl rfl (by omega) (fun m14 h14 => h _ _ (zM_eq h14 (fun k _ => ?_))))
          rw [← eB]
          unfold zbg
          rw [if_pos hn, hv, hnz q, zu_n (show 10 + 7 * A (98 + 9 * j) + 1 ≠ 94 + 9 * j + 2 by omega), zu_n (show 10 + 7 * A (98 + 9 * j) + 1 ≠ 94 + 9 * j + 1 by omega), show 94 + 9 * j + 0 = 94 + 9 * j by omega, show 94 + 9 * j + 1 = 95 + 9 * j by omega, show 94 + 9 * j + 2 = 96 + 9 * j by omega, show 10 + 7 * A (98 + 9 * j) + 1 = 11 + 7 * A (98 + 9 * j) by omega]
      by_cases e : zD (ztk A j) (A (94 + 9 * j)) (ztk A j (10 + 7 * A (98 + 9 * j))) ≤ zD (ztk A j) (A (94 + 9 * j)) (ztk A j (11 + 7 * A (98 + 9 * j)))
      · exact br_f (nI_nlt e (by omega)) (hend 1 _ (fun q => absurd q (by decide)) (fun _ => rfl) (if_pos e))
      · exact br_t (nI_lt (by omega) (by omega)) (hend 0 _ (fun _ => rfl) (fun q => absurd rfl q) (if_neg e))
    · refine br_f (by decide) ⟨by unfold vp_in; decide, by unfold vp_in; decide, h _ _ ?_⟩
      rw [show (8 : Int32).toNatClampNeg = 8 from rfl, hk4 8 (by omega), nI_1, ← eB]
      try dsimp only
      unfold zbg
      rw [if_neg hn]
      exact zM_u hk4 _ _
  · intro n i f hi hf ih
    refine br_f (nI_ge hi (by omega)) (m_ofP hf j (4 + i + 1) (by rw [show (4 : Int32) = nI 4 from rfl, nI_add, nI_1]) (by omega) ?_)
    refine m_setsP hf j (4 + i) _ (nI_add 4 i) rfl (by omega) (fun m' h' => ?_)
    rw [nI_1]
    refine ih m' (zM_eq h' (fun k _ => ?_))
    unfold zu
    try dsimp only
    by_cases q1 : k = 94 + 9 * j + (4 + i)
    · rw [if_pos q1, if_neg (by omega), if_pos (by omega), show 94 + 9 * j + (4 + i + 1) = k + 1 by omega]
    · rw [if_neg q1]
      by_cases q2 : 98 + 9 * j ≤ k ∧ k < 98 + 9 * j + i
      · rw [if_pos q2, if_pos (by omega)]
      · rw [if_neg q2, if_neg (by omega)]
/-- what the reference answers for a plough's minute -/
def zrt (n : Nat) : Int32 := if n = 99 then -1 else nI n
theorem zrt_eq {n w : Nat} (hn : n = 99 ∨ n < 12) (hw : w ≤ 12) : zrt n = nI w ↔ n = w := by
  unfold zrt
  by_cases e : n = 99
  · rw [if_pos e]
    constructor
    · intro q
      have : (-1 : Int32).toInt = (nI w).toInt := by rw [q]
      rw [nI_toInt (by omega), show (-1 : Int32).toInt = -1 from rfl] at this
      omega
    · omega
  · rw [if_neg e]
    exact nI_eq (by omega) (by omega)
theorem m_work {A : Nat → Nat} (hI : zI A) {m far : Nat → Int32} (hM : zM A m) {j : Nat} (hj : j < A 2) {post : Int32 → (Nat → Int32) → (Nat → Int32) → Prop} (h : ∀ m', zM (zwk2 A j) m' → post (zrt (if A (95 + 9 * j) = 1 then A (96 + 9 * j) else 99)) m' far) : wpX7_ploughMinute_L23 (nI j) post m far := by
  have hA := hI.1
  have hp := zI_pl hI hj
  have h200 := hp.2.1
  unfold wpX7_ploughMinute_L23
  refine m_ofP hM j 1 rfl (by omega) ?_
  rw [show 94 + 9 * j + 1 = 95 + 9 * j by omega]
  by_cases e0 : A (95 + 9 * j) = 0
  · have eW : zwk2 A j = A := by unfold zwk2; rw [if_pos e0]
    rw [eW, if_neg (show ¬ A (95 + 9 * j) = 1 by omega)] at h
    exact br_m (by rw [e0]; rfl) (h m hM)
  · refine br_n (nI_ne0 (by omega) (by omega)) (m_ofP hM j 1 rfl (by omega) ?_)
    rw [show 94 + 9 * j + 1 = 95 + 9 * j by omega]
    refine m_setsP hM j 1 (A (95 + 9 * j) - 1) rfl (pk_sub (b := 1) (by omega)) (by omega) (fun m4 h4 => m_ofP h4 j 1 rfl (by omega) ?_)
    rw [show 94 + 9 * j + 1 = 95 + 9 * j by omega] at h4 ⊢
    rw [zu_s]
    by_cases e1 : A (95 + 9 * j) = 1
    · have hst := hp.2.2.1 (by omega)
      have eW : zwk2 A j = zu (zcl (zu A (95 + 9 * j) 0) (A (96 + 9 * j))) (96 + 9 * j) 0 := by unfold zwk2; rw [if_neg e0, if_pos e1]
      rw [eW, if_pos e1] at h
      rw [show A (95 + 9 * j) - 1 = 0 by omega] at h4
      refine br_t (by rw [e1]; decide) (m_ofP h4 j 2 rfl (by omega) ?_)
      rw [show 94 + 9 * j + 2 = 96 + 9 * j by omega, zu_n (by omega)]
      unfold wpX7_clears
      refine m_ofP h4 j 2 rfl (by omega) ⟨by unfold vp_in; decide, by unfold vp_in; decide, by unfold vp_in; decide, ?_⟩
      rw [show 94 + 9 * j + 2 = 96 + 9 * j by omega, zu_n (by omega), show (6 : Int32).toNatClampNeg = 6 from rfl, show (7 : Int32).toNatClampNeg = 7 from rfl, h4 6 (by omega), nI_1]
      try dsimp only
      have h5 := zM_u h4 6 (zu A (95 + 9 * j) 0 6 + 1)
      refine m_of h5 (A (96 + 9 * j)) 4 rfl (by omega) ⟨by unfold vp_in; decide, ?_⟩
      rw [show 10 + 7 * A (96 + 9 * j) + 4 = 14 + 7 * A (96 + 9 * j) by omega, h5 7 (by omega), nI_add]
      try dsimp only
      refine m_sets (zM_u h5 7 _) (A (96 + 9 * j)) 4 0 rfl rfl (by omega) (fun m7 h7 => m_setsP h7 j 2 0 rfl rfl (by omega) (fun m8 h8 => ?_))
      have hz : zrt (A (96 + 9 * j)) = nI (A (96 + 9 * j)) := if_neg (by omega)
      rw [hz] at h
      refine h m8 (zM_eq h8 (fun k _ => ?_))
      unfold zcl
      rw [show 94 + 9 * j + 2 = 96 + 9 * j by omega, show 10 + 7 * A (96 + 9 * j) + 4 = 14 + 7 * A (96 + 9 * j) by omega, zu_n (show 7 ≠ 6 by omega), zu_n (show 14 + 7 * A (96 + 9 * j) ≠ 6 by omega)]
    · have eW : zwk2 A j = zu A (95 + 9 * j) (A (95 + 9 * j) - 1) := by unfold zwk2; rw [if_neg e0, if_neg e1]
      rw [eW, if_neg e1] at h
      exact br_f (nI_nle (by omega) (by omega)) (h m4 h4)
theorem m_pm {A : Nat → Nat} (hI : zI A) {m far : Nat → Int32} (hM : zM A m) {j : Nat} (hj : j < A 2) {post : Int32 → (Nat → Int32) → (Nat → Int32) → Prop} (h : ∀ m' f, zM (zpm A j) m' → post (zrt (zpc A j)) m' f) : wpX7_ploughMinute (nI j) m far post := by
  have hA := hI.1
  have hp := zI_pl hI hj
  have h200 := hp.2.1
  have h5 := hp.2.2.2.1
  have hno : ¬ (A (95 + 9 * j) = 0 ∧ 0 < A (97 + 9 * j)) → wpX7_ploughMinute_L23 (nI j) post m far := by
    intro hb
    have eb : zb1 A j = A := by unfold zb1; rw [if_neg hb]
    exact m_work hI hM hj (fun m' hm' => by have := h m' far; unfold zpm zpc at this; rw [eb] at this; exact this hm')
  unfold wpX7_ploughMinute
  refine m_ofP hM j 1 rfl (by omega) ?_
  rw [show 94 + 9 * j + 1 = 95 + 9 * j by omega]
  by_cases e0 : A (95 + 9 * j) = 0
  · refine br_m (by rw [e0]; rfl) (m_ofP hM j 3 rfl (by omega) ?_)
    rw [show 94 + 9 * j + 3 = 97 + 9 * j by omega]
    by_cases e1 : 0 < A (97 + 9 * j)
    · have eb : zb1 A j = zta A j := by unfold zb1; rw [if_pos ⟨e0, e1⟩]
      refine br_f (nI_nle e1 (by omega)) (m_takes hI hM hj e1 (fun m9 f9 h9 => ?_))
      refine m_work (zta_I hI hj e1) h9 (by rw [(zta_same hI hj).1 2 (by omega)]; exact hj) (fun m' hm' => ?_)
      have := h m' f9
      unfold zpm zpc at this
      rw [eb] at this
      exact this hm'
    · exact br_t (by rw [show A (97 + 9 * j) = 0 by omega]; decide) (hno (by omega))
  · exact br_n (nI_ne0 (by omega) (by omega)) (hno (by omega))
theorem zpc_lt {A : Nat → Nat} (hI : zI A) {j : Nat} (hj : j < A 2) : zpc A j = 99 ∨ zpc A j < A 1 := by
  have hb := zb1_I hI hj
  have hs := zb1_same hI hj
  have hp := zI_pl hb (j := j) (by rw [hs.1 2 (by omega)]; exact hj)
  unfold zpc
  by_cases e : zb1 A j (95 + 9 * j) = 1
  · rw [if_pos e]
    have := hp.2.2.1 (by omega)
    rw [hs.1 1 (by omega)] at this
    exact Or.inr this
  · rw [if_neg e]
    exact Or.inl rfl
/-! the hour's end in the reference -/
theorem m_drifts {A : Nat → Nat} {n w : Nat} {d : Nat → Nat} {m m_drift : Nat → Int32} (hM : zM A m) (h1 : A 1 = n) (hn : n ≤ 12) (h5 : A 5 = w) (hw : w ≤ 9) (hd : ∀ i : Nat, i < n → A (14 + 7 * i) = d i ∧ d i ≤ 200) {post : (Nat → Int32) → (Nat → Int32) → Prop}
    (h : ∀ m' f, zM (zset A 4 (fun i => if 1 < n then (if 200 < d i - (if w < d i / 4 then w else d i / 4) + (if w < d (zpv n i) / 4 then w else d (zpv n i) / 4) then 200 else d i - (if w < d i / 4 then w else d i / 4) + (if w < d (zpv n i) / 4 then w else d (zpv n i) / 4)) else d i) n) m' → post m' f) : wpX7_drifts m m_drift post := by
  unfold wpX7_drifts
  refine ⟨by unfold vp_in; decide, ?_⟩
  rw [show (1 : Int32).toNatClampNeg = 1 from rfl, hM 1 (by omega), h1]
  try dsimp only
  refine pk_loop (fun q i f => wpX7_drifts_L9 (nI n) m post q (nI i) f) (fun i f => zL f i (fun i => if w < d i / 4 then w else d i / 4)) n 0 m_drift (Nat.zero_le _) (fun i hi => absurd hi (Nat.not_lt_zero i)) ?_ ?_
  · intro q f hf
    refine br_t (nI_le (Nat.le_refl _) (by omega)) ?_
    by_cases e1 : 1 < n
    · refine pk_loop (fun q i m => wpX7_drifts_L45 (nI n) f post q (nI i) m) (fun i m => zM (zset A 4 (fun i => if 1 < n then (if 200 < d i - (if w < d i / 4 then w else d i / 4) + (if w < d (zpv n i) / 4 then w else d (zpv n i) / 4) then 200 else d i - (if w < d i / 4 then w else d i / 4) + (if w < d (zpv n i) / 4 then w else d (zpv n i) / 4)) else d i) i) m) n 0 m (Nat.zero_le _) (zM_eq hM (fun k _ => (zset_out (by omega)).symm)) ?_ ?_
      · intro q m hm
        exact br_t (nI_le (Nat.le_refl _) (by omega)) (h m f hm)
      · intro q i m hi hm ih
        have hdi := hd i hi
        have hpi : zpv n i < n := by unfold zpv; split <;> omega
        have hdp := hd _ hpi
        have key : ∀ z0, z0 = nI (zpv n i) → wpX7_drifts_L68 (nI n) f (fun v1 v2 => wpX7_drifts_L45 (nI n) f post q v1 v2) post z0 (nI i) m := by
          rintro z0 rfl
          unfold wpX7_drifts_L68
          refine m_of hm i 4 rfl (by omega) ⟨vp_in_nI (by omega) (by omega), vp_in_nI (by omega) (by omega), ?_⟩
          rw [nI_clamp (by omega), nI_clamp (by omega), hf i hi, hf _ hpi, zset_out (by omega), show 10 + 7 * i + 4 = 14 + 7 * i by omega, hdi.1]
          try dsimp only
          obtain ⟨lv, elv⟩ : ∃ q, q = if w < d i / 4 then w else d i / 4 := ⟨_, rfl⟩
          have llv : lv ≤ d i := by rw [elv]; split <;> omega
          obtain ⟨pv, epv⟩ : ∃ q, q = if w < d (zpv n i) / 4 then w else d (zpv n i) / 4 := ⟨_, rfl⟩
          have lpv : pv ≤ 200 := by rw [epv]; split <;> omega
          rw [← elv, ← epv, pk_sub llv, nI_add]
          refine m_lesser (a := 200) (by omega) (by omega) (m_sets hm i 4 _ rfl rfl (by omega) (fun m' h' => ?_))
          rw [nI_1]
          refine ih m' (zM_eq h' (fun k hk => ?_))
          rw [← zset_s (by omega) k]
          try dsimp only
          rw [if_pos e1, ← elv, ← epv]
        refine br_f (nI_ge hi (by omega)) (br_f (nI_ge (a := 1) e1 (by omega)) ?_)
        by_cases e0 : i = 0
        · subst e0
          refine br_m rfl (key _ ?_)
          rw [show zpv n 0 = n - 1 from if_pos rfl]
          exact pk_sub (b := 1) (by omega)
        · refine br_n (nI_ne0 (by omega) (by omega)) (key _ ?_)
          rw [show zpv n i = i - 1 from if_neg e0]
          exact pk_sub (b := 1) (by omega)
    · refine ⟨1, ?_⟩
      have hm' := h m f (zM_eq hM (fun k _ => by
        unfold zset
        split
        · next q =>
          try dsimp only
          rw [← (hd ((k - 10) / 7) (by omega)).1, show 14 + 7 * ((k - 10) / 7) = k by omega]
        · rfl))
      exact ⟨fun _ => hm', fun _ => br_t (nI_le (b := 1) (by omega) (by omega)) hm'⟩
  · intro q i f hi hf ih
    have hdi := hd i hi
    refine br_f (nI_ge hi (by omega)) ⟨by unfold vp_in; decide, m_of hM i 4 rfl (by omega) ?_⟩
    rw [show 10 + 7 * i + 4 = 14 + 7 * i by omega, hdi.1, show (5 : Int32).toNatClampNeg = 5 from rfl, hM 5 (by omega), h5, show nI (d i) / 4 = nI (d i / 4) from pk_div (d := 4) (by omega) (by omega) (by omega)]
    try dsimp only
    refine m_lesser (by omega) (by omega) ⟨vp_in_nI (by omega) (by omega), ?_⟩
    rw [nI_clamp (by omega), nI_1]
    refine ih _ (fun j hj => ?_)
    unfold upd
    try dsimp only
    by_cases e : j = i
    · rw [if_pos e, e]
    · rw [if_neg e]
      exact hf j (by omega)
theorem m_hour {A : Nat → Nat} (hI : zI A) (hT : A 0 < 2 ^ 29) {m m_drift : Nat → Int32} (hM : zM A m) {post : (Nat → Int32) → (Nat → Int32) → Prop} (h : ∀ m' f, zM (zhour A) m' → post m' f) : wpX7_hourEnds m m_drift post := by
  have hA := hI.1
  unfold wpX7_hourEnds
  refine pk_loop (fun q i f => wpX7_hourEnds_L2 m_drift post q (nI i) f) (fun i f => zM (zset A 4 (zf2 A) i) f) (A 1) 0 m (Nat.zero_le _) (zM_eq hM (fun k _ => (zset_out (by omega)).symm)) ?_ ?_
  · intro q f hf
    refine ⟨by unfold vp_in; decide, ?_⟩
    rw [show (1 : Int32).toNatClampNeg = 1 from rfl, hf 1 (by omega), zset_lo (by omega)]
    try dsimp only
    refine br_t (nI_le (Nat.le_refl _) (by omega)) (m_drifts hf (n := A 1) (w := A 5) (d := zf2 A) (zset_lo (by omega)) hA.1 (zset_lo (by omega)) hA.2.2.2.2 (fun i hi => ⟨?_, zf2_le⟩) (fun m2 f2 h2 => ?_))
    · rw [show 14 + 7 * i = 10 + 7 * i + 4 by omega, zset_in hi (by omega)]
      try dsimp only
    · have h3 : zM (zset A 4 (zf3 A) (A 1)) m2 := by
        refine zM_eq h2 (fun k _ => ?_)
        unfold zset
        split
        · rfl
        · rfl
      refine pk_loop (fun q i f => wpX7_hourEnds_L75 f2 post q (nI i) f) (fun i f => zM (zu (zset (zset A 4 (zf3 A) (A 1)) 6 (zcp A) i) 9 (A 9 + zcn (zov A) i)) f) (A 1) 0 m2 (Nat.zero_le _) (zM_eq h3 (fun k _ => ?_)) ?_ ?_
      · by_cases e : k = 9
        · rw [e, zu_s, zset_lo (by omega)]
          rfl
        · rw [zu_n e]
          exact (zset_out (by omega)).symm
      · intro q f hf
        refine ⟨by unfold vp_in; decide, ?_⟩
        rw [show (1 : Int32).toNatClampNeg = 1 from rfl, hf 1 (by omega), zu_n (by omega), zset_lo (by omega), zset_lo (by omega)]
        try dsimp only
        exact br_t (nI_le (Nat.le_refl _) (by omega)) (h f f2 hf)
      · intro q i f hi hf ih
        have hs := hI.2.1 i hi
        refine ⟨by unfold vp_in; decide, ?_⟩
        rw [show (1 : Int32).toNatClampNeg = 1 from rfl, hf 1 (by omega), zu_n (by omega), zset_lo (by omega), zset_lo (by omega)]
        try dsimp only
        refine br_f (nI_ge hi (by omega)) ?_
        have a2 : zu (zset (zset A 4 (zf3 A) (A 1)) 6 (zcp A) i) 9 (A 9 + zcn (zov A) i) (12 + 7 * i) = A (12 + 7 * i) := by rw [zu_n (by omega), zset_out (by omega), zset_out (by omega)]
        have a4 : zu (zset (zset A 4 (zf3 A) (A 1)) 6 (zcp A) i) 9 (A 9 + zcn (zov A) i) (14 + 7 * i) = zf3 A i := by rw [zu_n (by omega), zset_out (by omega), show 14 + 7 * i = 10 + 7 * i + 4 by omega, zset_in hi (by omega)]
        have a6 : zu (zset (zset A 4 (zf3 A) (A 1)) 6 (zcp A) i) 9 (A 9 + zcn (zov A) i) (16 + 7 * i) = A (16 + 7 * i) := by rw [zu_n (by omega), zset_out (by omega), zset_out (by omega)]
        have hz3 := @zf3_le A i
        have hzl : zlim (A (12 + 7 * i)) < 2 ^ 31 := by unfold zlim; omega
        unfold wpX7_overdue
        refine m_of hf i 4 rfl (by omega) (m_limit hf (by omega) (by rw [a2]; exact hs.2.2.1) ?_)
        rw [show 10 + 7 * i + 4 = 14 + 7 * i by omega, a4, a2]
        have hstep : ∀ v c m', zcp A i = v → zcn (zov A) (i + 1) = c → zM (zu (zu (zu (zset (zset A 4 (zf3 A) (A 1)) 6 (zcp A) i) 9 (A 9 + zcn (zov A) i)) (10 + 7 * i + 6) v) 9 (A 9 + c)) m' → zM (zu (zset (zset A 4 (zf3 A) (A 1)) 6 (zcp A) (i + 1)) 9 (A 9 + zcn (zov A) (i + 1))) m' := by
          intro v c m' hv hc hm'
          refine zM_eq hm' (fun k _ => ?_)
          rw [hc]
          by_cases e9 : k = 9
          · rw [e9, zu_s, zu_s]
          · rw [zu_n e9, zu_n e9, ← zset_s (by omega) k, ← hv]
            unfold zu
            try dsimp only
            split
            · rfl
            · first | rfl | rw [if_neg e9]
        have ecn : zcn (zov A) (i + 1) = zcn (zov A) i + if zov A i then 1 else 0 := rfl
        by_cases e : zlim (A (12 + 7 * i)) < zf3 A i
        · refine br_f (nI_ge e (by omega)) (br_f (by decide) (m_of hf i 6 rfl (by omega) ?_))
          rw [show 10 + 7 * i + 6 = 16 + 7 * i by omega, a6, nI_1]
          refine m_sets hf i 6 (A (16 + 7 * i) + 1) rfl rfl (by omega) (fun m6 h6 => ⟨by unfold vp_in; decide, by unfold vp_in; decide, ?_⟩)
          rw [show (9 : Int32).toNatClampNeg = 9 from rfl, h6 9 (by omega), zu_n (show 9 ≠ 10 + 7 * i + 6 by omega), zu_s, nI_1, nI_1, Nat.add_assoc]
          try dsimp only
          exact ih _ (hstep _ _ _ (by unfold zcp; rw [if_pos e]) (by rw [ecn, if_pos e]) (zM_u h6 9 _))
        · refine br_t (nI_le (by omega) hzl) (br_t rfl ?_)
          rw [nI_1]
          refine ih _ (hstep (A (16 + 7 * i)) (zcn (zov A) i) _ (by unfold zcp; rw [if_neg e]; rfl) (by rw [ecn, if_neg e]; rfl) (zM_eq hf (fun k _ => ?_)))
          by_cases e9 : k = 9
          · rw [e9, zu_s, zu_s]
          · rw [zu_n (j := k) (k := 9) e9, zu_n (j := k) (k := 9) e9]
            by_cases e6 : k = 10 + 7 * i + 6
            · rw [e6, zu_s, zset_out (by omega), zset_out (by omega), show 10 + 7 * i + 6 = 16 + 7 * i by omega]
            · rw [zu_n e6, zu_n e9]
  · intro q i f hi hf ih
    have hs := hI.2.1 i hi
    refine ⟨by unfold vp_in; decide, ?_⟩
    rw [show (1 : Int32).toNatClampNeg = 1 from rfl, hf 1 (by omega), zset_lo (by omega)]
    try dsimp only
    have a4 : zset A 4 (zf2 A) i (14 + 7 * i) = A (14 + 7 * i) := zset_out (by omega)
    have a5 : zset A 4 (zf2 A) i (15 + 7 * i) = A (15 + 7 * i) := zset_out (by omega)
    have a0 : zset A 4 (zf2 A) i 0 = A 0 := zset_lo (by omega)
    refine br_f (nI_ge hi (by omega)) (m_of hf i 4 rfl (by omega) ⟨by unfold vp_in; decide, ?_⟩)
    rw [show 10 + 7 * i + 4 = 14 + 7 * i by omega, a4, show (4 : Int32).toNatClampNeg = 4 from rfl, hf 4 (by omega), zset_lo (by omega), nI_add]
    try dsimp only
    refine m_lesser (a := 200) (by omega) (by omega) ?_
    have e1 : (if 200 < A (14 + 7 * i) + A 4 then 200 else A (14 + 7 * i) + A 4) = zf1 A i := rfl
    rw [e1]
    have l1 := @zf1_le A i
    have hend : ∀ v m', zf2 A i = v → zM (zu (zset A 4 (zf2 A) i) (10 + 7 * i + 4) v) m' → wpX7_hourEnds_L2 m_drift post q (nI i + 1) m' := by
      intro v m' hv hm'
      rw [nI_1]
      refine ih m' (zM_eq hm' (fun k _ => ?_))
      rw [← zset_s (by omega) k, hv]
    refine m_salted hf (by omega) (by rw [a0]; exact hT) (by rw [a5, a0]; exact hs.2.2.2.2.2.2.2) (fun hsal => ?_) (fun hsal => ?_)
    · rw [a0, a5] at hsal
      refine br_f (by decide) ?_
      have e2 : zf2 A i = zf1 A i - 3 := if_pos hsal
      unfold wpX7_hourEnds_L47
      by_cases e3 : zf1 A i < 3
      · refine br_f ?_ (m_sets hf i 4 0 rfl rfl (by omega) (fun m' h' => hend 0 m' (by omega) h'))
        have this : nI (zf1 A i) - 3 < 0 := pk_sneg (a := zf1 A i) (b := 3) (by omega) e3
        rw [Int32.lt_iff_toInt_lt] at this
        rw [Int32.le_iff_toInt_le]
        exact fun q => absurd this (by omega)
      · rw [show nI (zf1 A i) - 3 = nI (zf1 A i - 3) from pk_sub (b := 3) (by omega)]
        exact br_t (nI_pos' (by omega)) (m_sets hf i 4 _ rfl rfl (by omega) (fun m' h' => hend _ m' e2 h'))
    · rw [a0, a5] at hsal
      have e2 : zf2 A i = zf1 A i := if_neg hsal
      refine br_t rfl ?_
      unfold wpX7_hourEnds_L47
      exact br_t (nI_pos' (by omega)) (m_sets hf i 4 _ rfl rfl (by omega) (fun m' h' => hend _ m' e2 h'))
theorem m_minute {A : Nat → Nat} (hI : zI A) (hT : A 0 + 1 < 2 ^ 29) {m far drift : Nat → Int32} (hM : zM A m) {w : Nat} (hw : w ≤ 12) {post : Int32 → (Nat → Int32) → (Nat → Int32) → (Nat → Int32) → Prop}
    (h : ∀ m' f d, zM (zmin A) m' → post (if 0 < zk1 A w (A 2) then 1 else 0) m' f d) : wpX7_minutePasses (nI w) m far drift post := by
  have hA := hI.1
  unfold wpX7_minutePasses
  refine ⟨by unfold vp_in; decide, by unfold vp_in; decide, ?_⟩
  rw [show (0 : Int32).toNatClampNeg = 0 from rfl, hM 0 (by omega), nI_1]
  try dsimp only
  refine pk_loop (fun q j (v : Int32 × (Nat → Int32) × (Nat → Int32)) => wpX7_minutePasses_L14 (nI w) drift post q v.1 (nI j) v.2.1 v.2.2) (fun j v => v.1 = (if 0 < zk1 A w j then 1 else 0) ∧ zM (zps A j) v.2.1) (A 2) 0 (0, _, far) (Nat.zero_le _) ⟨rfl, zM_u hM 0 _⟩ ?_ ?_
  · rintro q ⟨x, m', f⟩ ⟨hx, hm'⟩
    dsimp only at hx hm'
    subst hx
    obtain ⟨hIp, -⟩ := zps_I hI (A 2) (Nat.le_refl _)
    have f0 := zps_0 hI (Nat.le_refl (A 2))
    show wpX7_minutePasses_L14 (nI w) drift post (q + 1) _ (nI (A 2)) m' f
    refine ⟨by unfold vp_in; decide, ?_⟩
    rw [show (2 : Int32).toNatClampNeg = 2 from rfl, hm' 2 (by omega), zps_k hI (Nat.le_refl _) (by omega) (by omega)]
    try dsimp only
    refine br_t (nI_le (Nat.le_refl _) (by omega)) ⟨by unfold vp_in; decide, ?_⟩
    rw [show (0 : Int32).toNatClampNeg = 0 from rfl, hm' 0 (by omega), f0, show nI (A 0 + 1) - nI (A 0 + 1) / 60 * 60 = nI ((A 0 + 1) % 60) from pk_rem (d := 60) (by omega) (by omega) (by omega)]
    try dsimp only
    have hb : narrow .boolean (.int (if 0 < zk1 A w (A 2) then 1 else 0)) = .int (if 0 < zk1 A w (A 2) then 1 else 0) := by
      split
      · exact m_nb1
      · exact m_nb0
    by_cases em : (A 0 + 1) % 60 = 0
    · refine br_m (by rw [em]; rfl) (m_hour hIp (by rw [f0]; exact hT) hm' (fun m2 d2 h2 => ⟨hb, h m2 f d2 ?_⟩))
      unfold zmin
      rw [f0, if_pos em]
      exact h2
    · refine br_n (nI_ne0 (by omega) (by omega)) ⟨hb, h m' f drift ?_⟩
      unfold zmin
      rw [f0, if_neg em]
      exact hm'
  · rintro q j ⟨x, m', f⟩ hj ⟨hx, hm'⟩ ih
    dsimp only at hx hm'
    subst hx
    obtain ⟨hIp, -⟩ := zps_I hI j (by omega)
    have f1 : zps A j 1 = A 1 := zps_k hI (by omega) (by omega) (by omega)
    have f2 : zps A j 2 = A 2 := zps_k hI (by omega) (by omega) (by omega)
    show wpX7_minutePasses_L14 (nI w) drift post (q + 1) _ (nI j) m' f
    refine ⟨by unfold vp_in; decide, ?_⟩
    rw [show (2 : Int32).toNatClampNeg = 2 from rfl, hm' 2 (by omega), f2]
    try dsimp only
    refine br_f (nI_ge hj (by omega)) (m_pm hIp hm' (by rw [f2]; exact hj) (fun m8 f8 h8 => ?_))
    have hz := zpc_lt hIp (j := j) (by rw [f2]; exact hj)
    rw [f1] at hz
    have hz' : zpc (zps A j) j = 99 ∨ zpc (zps A j) j < 12 := by omega
    have hq := zrt_eq hz' hw
    rw [nI_1]
    have ek : zk1 A w (j + 1) = zk1 A w j + if zpc (zps A j) j = w then 1 else 0 := rfl
    by_cases e : zpc (zps A j) j = w
    · refine br_m (hq.mpr e) (ih (_, m8, f8) ⟨?_, h8⟩)
      try dsimp only
      rw [ek, if_pos e, if_pos (show 0 < zk1 A w j + 1 by omega)]
      split <;> decide
    · refine br_n (fun k => e (hq.mp k)) (ih (_, m8, f8) ⟨?_, h8⟩)
      try dsimp only
      rw [ek, if_neg e, Nat.add_zero]
      split <;> decide
theorem m_waits {A : Nat → Nat} (hI : zI A) {n : Nat} (hn1 : 1 ≤ n) (hn : n ≤ 600) (hT : A 0 + n < 2 ^ 29) {thr ans : Int32} {m far drift : Nat → Int32} (hM : zM A m) {post : Int32 → Int32 → Int32 → (Nat → Int32) → (Nat → Int32) → (Nat → Int32) → Prop}
    (h : ∀ a m' f d, zM (zit A n) m' → post (nI (zit A n 6) - nI (A 6)) 0 a m' f d) : wpX7_waits (nI n) thr ans m far drift post := by
  have hA := hI.1
  unfold wpX7_waits
  refine m_in (a := 1) (b := 600) (by omega) (by omega) (fun _ _ _ _ => ?_) (fun q => absurd ⟨n, hn1, hn, rfl⟩ q)
  refine br_n (by decide) ?_
  unfold wpX7_waits_L17
  refine m_no (br_t rfl ⟨by unfold vp_in; decide, ?_⟩)
  rw [show (6 : Int32).toNatClampNeg = 6 from rfl, hM 6 (by omega)]
  try dsimp only
  refine pk_loop (fun q k (v : Int32 × (Nat → Int32) × (Nat → Int32) × (Nat → Int32)) => wpX7_waits_L36 (nI n) (nI (A 6)) 0 post q (nI k) v.1 v.2.1 v.2.2.1 v.2.2.2) (fun k v => zM (zit A k) v.2.1) n 0 (ans, m, far, drift) (Nat.zero_le _) hM ?_ ?_
  · rintro q ⟨a, m', f, d⟩ hm'
    dsimp only at hm'
    show wpX7_waits_L36 (nI n) (nI (A 6)) 0 post (q + 1) (nI n) a m' f d
    refine br_t (nI_le (Nat.le_refl _) (by omega)) ⟨by unfold vp_in; decide, ?_⟩
    rw [show (6 : Int32).toNatClampNeg = 6 from rfl, hm' 6 (by omega)]
    try dsimp only
    exact h a m' f d hm'
  · rintro q k ⟨a, m', f, d⟩ hk hm' ih
    dsimp only at hm'
    obtain ⟨hIk, hsk, htk⟩ := zit_I hI k
    show wpX7_waits_L36 (nI n) (nI (A 6)) 0 post (q + 1) (nI k) a m' f d
    refine br_f (nI_ge hk (by omega)) (m_minute hIk (by omega) hm' (w := 12) (Nat.le_refl _) (fun m2 f2 d2 h2 => ?_))
    rw [nI_1]
    split
    · exact br_f (by decide) (ih (1, m2, f2, d2) h2)
    · exact br_t rfl (ih (0, m2, f2, d2) h2)

