/-! the class: minutes pass -/
theorem zpm_o {A : Nat → Nat} (h : zI A) {j : Nat} (hj : j < A 2) {k : Nat} (hk : k < 94) (h6 : ¬ (6 ≤ k ∧ k < 9)) (h4 : ∀ i : Nat, i < A 1 → k ≠ 14 + 7 * i) : zpm A j k = A k := by
  have hb : zb1 A j k = A k := by
    unfold zb1
    split
    · unfold zta
      rw [zbg_o (by omega) (by omega), ztk_o (zI_pl h hj).2.2.2.1 (by omega)]
      try dsimp only
    · rfl
  have hIb := zb1_I h hj
  have hsb := zb1_same h hj
  have e1 : zb1 A j 1 = A 1 := hsb.1 1 (by omega)
  have hp := zI_pl hIb (j := j) (by rw [hsb.1 2 (by omega)]; exact hj)
  have hA := h.1
  unfold zpm zwk2
  by_cases e0 : zb1 A j (95 + 9 * j) = 0
  · rw [if_pos e0, hb]
  · rw [if_neg e0]
    by_cases e2 : zb1 A j (95 + 9 * j) = 1
    · rw [if_pos e2]
      have := hp.2.2.1 (by omega)
      rw [e1] at this
      have h9 := h4 _ this
      rw [zu_n (by omega), zcl_o (by omega) (by omega), zu_n (by omega), hb]
      try dsimp only
    · rw [if_neg e2, zu_n (by omega), hb]
theorem zps_o {A : Nat → Nat} (h : zI A) {k : Nat} (hk : k < 94) (h0 : k ≠ 0) (h6 : ¬ (6 ≤ k ∧ k < 9)) (h4 : ∀ i : Nat, i < A 1 → k ≠ 14 + 7 * i) : ∀ j : Nat, j ≤ A 2 → zps A j k = A k
  | 0, _ => zu_n h0
  | j + 1, hj => by
    have a := zps_I h j (by omega)
    have e2 : zps A j 2 = A 2 := zps_k h (by omega) (by omega) (by omega)
    have e1 : zps A j 1 = A 1 := zps_k h (by omega) (by omega) (by omega)
    show zpm (zps A j) j k = A k
    rw [zpm_o a.1 (by omega) hk h6 (fun i hi => h4 i (by omega)), zps_o h hk h0 h6 h4 j (by omega)]
/-- what stays the same while minutes pass -/
def zF (A : Nat → Nat) (lower higher kind size saltEnd : Nat → Int32) : Prop :=
  zL lower (A 1) (fun i => A (10 + 7 * i)) ∧ zL higher (A 1) (fun i => A (11 + 7 * i)) ∧ zL kind (A 1) (fun i => A (12 + 7 * i)) ∧ zL size (A 1) (fun i => A (13 + 7 * i)) ∧ zL saltEnd (A 1) (fun i => A (15 + 7 * i))
theorem zF_0 {A B : Nat → Nat} (h : zsm0 A B) {lower higher kind size saltEnd : Nat → Int32} (hF : zF A lower higher kind size saltEnd) : zF B lower higher kind size saltEnd := by
  have e := h.1 1 (by omega) (by omega)
  obtain ⟨a, b, c, d, f⟩ := hF
  unfold zF
  rw [e]
  refine ⟨fun i hi => ?_, fun i hi => ?_, fun i hi => ?_, fun i hi => ?_, fun i hi => ?_⟩
  · rw [a i hi]; dsimp only; rw [(h.2 i hi).1]
    try dsimp only
  · rw [b i hi]; dsimp only; rw [(h.2 i hi).2.1]
    try dsimp only
  · rw [c i hi]; dsimp only; rw [(h.2 i hi).2.2.1]
    try dsimp only
  · rw [d i hi]; dsimp only; rw [(h.2 i hi).2.2.2.1]
    try dsimp only
  · rw [f i hi]; dsimp only; rw [(h.2 i hi).2.2.2.2]
    try dsimp only
/-- a plough's minute in the class, whatever comes then -/
theorem k_plough {A C : Nat → Nat} (hI : zI A) {lower higher kind size saltEnd : Nat → Int32} (hF : zF A lower higher kind size saltEnd) {cleared ploughed failed : Int32} {reach settled snow clearings place target ml waiting orders : Nat → Int32} (hV : zV A C cleared ploughed failed snow clearings place target ml waiting orders) {j : Nat} (hj : j < A 2)
    {K : Int32 → Int32 → Int32 → (Nat → Int32) → (Nat → Int32) → (Nat → Int32) → (Nat → Int32) → (Nat → Int32) → (Nat → Int32) → (Nat → Int32) → (Nat → Int32) → (Nat → Int32) → Prop}
    (h : ∀ c p f r s sn cl pl t m w o, zV (zpm A j) (fun i => C i + if zpc A j = i then 1 else 0) c p f sn cl pl t m w o → K c p f r s sn cl pl t m w o) :
    wpX2_canBegin (nI j) ml waiting (nI (A 2)) (fun r2 => ((r2 = 0 → wpX2_work (nI j) target ml (nI (A 2)) (fun r3 m3 => wpX5_clearStreet r3 cleared ploughed snow clearings (nI (A 1)) (fun c4 p4 sn4 cl4 => K c4 p4 failed reach settled sn4 cl4 place target m3 waiting orders))) ∧
      (¬ r2 = 0 → wpX5_beginOrder (nI j) failed reach settled lower higher size (nI (A 1)) place target ml waiting orders (nI (A 2)) (fun f5 r5 s5 pl5 t5 m5 w5 o5 => wpX2_work (nI j) t5 m5 (nI (A 2)) (fun r6 m6 => wpX5_clearStreet r6 cleared ploughed snow clearings (nI (A 1)) (fun c7 p7 sn7 cl7 => K c7 p7 f5 r5 s5 sn7 cl7 pl5 t5 m6 w5 o5)))))) := by
  obtain ⟨v1, v2, v3, v4, v5, v6⟩ := id hV
  refine k_canBegin hI v6.2.2.2.1 v6.2.2.2.2.1 hj (fun hb => br_f (by decide) ?_) (fun hb => br_t rfl ?_)
  · have eb : zb1 A j = zta A j := by unfold zb1; rw [if_pos hb]
    have hIt := zta_I hI hj hb.2
    have hst := zta_same hI hj
    have e1 : zta A j 1 = A 1 := hst.1 1 (by omega)
    have e2 : zta A j 2 = A 2 := hst.1 2 (by omega)
    have h5 := (zI_pl hI hj).2.2.2.1
    have hA := hI.1
    rw [v3]
    refine k_beginOrder hI hF.1 hF.2.1 hF.2.2.2.1 v6 hj hb.2 (fun f5 g5 p5 t5 m5 w5 o5 hQ => ?_)
    have hV' : zV (zta A j) C cleared ploughed (nI (zta A j 8)) snow clearings p5 t5 m5 w5 o5 := by
      have eo : ∀ k : Nat, k < 94 → k ≠ 8 → zta A j k = A k := by
        intro k hk h8
        unfold zta
        rw [zbg_o (by omega) h8, ztk_o h5 (by omega)]
        try dsimp only
      refine ⟨by rw [eo 6 (by omega) (by omega)]; exact v1, by rw [eo 7 (by omega) (by omega)]; exact v2, rfl, ?_, ?_, ?_⟩
      · rw [e1]
        intro i hi
        rw [v4 i hi]
        try dsimp only
        rw [eo _ (by omega) (by omega)]
      · rw [e1]
        exact v5
      · rw [e2]
        exact hQ
    have := k_work hIt hV' (j := j) (by rw [e2]; exact hj) (K := fun c7 p7 sn7 cl7 m6 => K c7 p7 (nI (zta A j 8)) f5 g5 sn7 cl7 p5 t5 m6 w5 o5) (fun c p sn cl m hV9 => h _ _ _ _ _ _ _ _ _ _ _ _ (by unfold zpm zpc; rw [eb]; exact hV9))
    rw [e1, e2] at this
    exact this
  · have eb : zb1 A j = A := by unfold zb1; rw [if_neg hb]
    exact k_work hI hV hj (K := fun c4 p4 sn4 cl4 m3 => K c4 p4 failed reach settled sn4 cl4 place target m3 waiting orders) (fun c p sn cl m hV9 => h _ _ _ _ _ _ _ _ _ _ _ _ (by unfold zpm zpc; rw [eb]; exact hV9))
/-- .. with the hour's cells -/
def zW (A C : Nat → Nat) (time cleared ploughed failed total : Int32) (snow compl clearings place target ml waiting orders : Nat → Int32) : Prop :=
  time = nI (A 0) ∧ total = nI (A 9) ∧ zL compl (A 1) (fun i => A (16 + 7 * i)) ∧ zV A C cleared ploughed failed snow clearings place target ml waiting orders
theorem zQ_eq {A B : Nat → Nat} (hI : zI A) (h2 : B 2 = A 2) (he : ∀ k : Nat, 94 ≤ k → B k = A k) {place target ml waiting orders : Nat → Int32} (h : zQ A place target ml waiting orders (nI (A 2))) : zQ B place target ml waiting orders (nI (B 2)) := by
  obtain ⟨-, q1, q2, q3, q4, q5⟩ := h
  unfold zQ
  rw [h2]
  refine ⟨rfl, fun j hj => ?_, fun j hj hb => ?_, fun j hj => ?_, fun j hj => ?_, fun j hj k hk => ?_⟩
  · rw [q1 j hj]; dsimp only; rw [he _ (by omega)]
    try dsimp only
  · rw [he _ (by omega)] at hb ⊢
    exact q2 j hj hb
  · rw [q3 j hj]; dsimp only; rw [he _ (by omega)]
    try dsimp only
  · rw [q4 j hj]; dsimp only; rw [he _ (by omega)]
    try dsimp only
  · rw [he _ (by omega)] at hk ⊢
    exact q5 j hj k hk
theorem k_pass {A C : Nat → Nat} (hI : zI A) {n : Nat} (hn1 : 1 ≤ n) (hn : n ≤ 600) (hT : A 0 + n < 2 ^ 29) {lower higher kind size saltEnd : Nat → Int32} (hF : zF A lower higher kind size saltEnd) {time cleared ploughed failed total : Int32} {reach settled snow compl clearings place target ml waiting orders : Nat → Int32} (hW : zW A C time cleared ploughed failed total snow compl clearings place target ml waiting orders)
    {post : Int32 → Int32 → Int32 → Int32 → Int32 → Int32 → (Nat → Int32) → (Nat → Int32) → (Nat → Int32) → (Nat → Int32) → (Nat → Int32) → (Nat → Int32) → (Nat → Int32) → (Nat → Int32) → (Nat → Int32) → (Nat → Int32) → Prop}
    (h : ∀ t c p f tt r s sn co cl pl tg m w o, zW (zit A n) (fun i => C i + zkk A i n) t c p f tt sn co cl pl tg m w o → post (nI (zit A n 6) - nI (A 6)) t c p f tt r s sn co cl pl tg m w o) :
    wpX5_passMinutes (nI n) time (nI (A 4)) (nI (A 5)) cleared ploughed failed total reach settled lower higher kind size snow saltEnd compl clearings (nI (A 1)) place target ml waiting orders (nI (A 2)) post := by
  have hA := hI.1
  unfold wpX5_passMinutes
  refine br_f (nI_nlt (b := 1) hn1 (by omega)) (br_t (nI_le (b := 600) hn (by omega)) ?_)
  have ec : cleared = nI (A 6) := hW.2.2.2.1
  rw [show wpX5_passMinutes_L22 (nI n) (nI (A 4)) (nI (A 5)) lower higher kind size saltEnd (nI (A 1)) (nI (A 2)) cleared post = wpX5_passMinutes_L22 (nI n) (nI (A 4)) (nI (A 5)) lower higher kind size saltEnd (nI (A 1)) (nI (A 2)) (nI (A 6)) post by rw [ec]]
  refine pk_loop (σ := Int32 × Int32 × Int32 × Int32 × Int32 × (Nat → Int32) × (Nat → Int32) × (Nat → Int32) × (Nat → Int32) × (Nat → Int32) × (Nat → Int32) × (Nat → Int32) × (Nat → Int32) × (Nat → Int32) × (Nat → Int32)) (fun q i v => wpX5_passMinutes_L22 (nI n) (nI (A 4)) (nI (A 5)) lower higher kind size saltEnd (nI (A 1)) (nI (A 2)) (nI (A 6)) post q (nI i) v.1 v.2.1 v.2.2.1 v.2.2.2.1 v.2.2.2.2.1 v.2.2.2.2.2.1 v.2.2.2.2.2.2.1 v.2.2.2.2.2.2.2.1 v.2.2.2.2.2.2.2.2.1 v.2.2.2.2.2.2.2.2.2.1 v.2.2.2.2.2.2.2.2.2.2.1 v.2.2.2.2.2.2.2.2.2.2.2.1 v.2.2.2.2.2.2.2.2.2.2.2.2.1 v.2.2.2.2.2.2.2.2.2.2.2.2.2.1 v.2.2.2.2.2.2.2.2.2.2.2.2.2.2) (fun k v => zW (zit A k) (fun i => C i + zkk A i k) v.1 v.2.1 v.2.2.1 v.2.2.2.1 v.2.2.2.2.1 v.2.2.2.2.2.2.2.1 v.2.2.2.2.2.2.2.2.1 v.2.2.2.2.2.2.2.2.2.1 v.2.2.2.2.2.2.2.2.2.2.1 v.2.2.2.2.2.2.2.2.2.2.2.1 v.2.2.2.2.2.2.2.2.2.2.2.2.1 v.2.2.2.2.2.2.2.2.2.2.2.2.2.1 v.2.2.2.2.2.2.2.2.2.2.2.2.2.2) n 0 (time, cleared, ploughed, failed, total, reach, settled, snow, compl, clearings, place, target, ml, waiting, orders) (Nat.zero_le _) hW ?_ ?_
  · rintro q ⟨t, c, p, f, tt, r, s, sn, co, cl, pl, tg, m, w, o⟩ hv
    refine br_t (nI_le (Nat.le_refl _) (by omega)) ?_
    have e6 : c = nI (zit A n 6) := hv.2.2.2.1
    have := h t c p f tt r s sn co cl pl tg m w o hv
    rw [← e6] at this
    exact this
  · rintro q k ⟨t, c, p, f, tt, r, s, sn, co, cl, pl, tg, m, w, o⟩ hk hv ih
    dsimp only at hv
    obtain ⟨hIk, hsk, htk⟩ := zit_I hI k
    have e1 : zit A k 1 = A 1 := hsk.1 1 (by omega) (by omega)
    have e2 : zit A k 2 = A 2 := hsk.1 2 (by omega) (by omega)
    have e4 : zit A k 4 = A 4 := hsk.1 4 (by omega) (by omega)
    have e5 : zit A k 5 = A 5 := hsk.1 5 (by omega) (by omega)
    obtain ⟨w1, w2, w3, w4⟩ := hv
    show wpX5_passMinutes_L22 (nI n) (nI (A 4)) (nI (A 5)) lower higher kind size saltEnd (nI (A 1)) (nI (A 2)) (nI (A 6)) post (q + 1) (nI k) t c p f tt r s sn co cl pl tg m w o
    refine br_f (nI_ge hk (by omega)) ?_
    rw [w1, w2, htk, nI_1]
    -- the ploughs, one after the other
    refine pk_loop (σ := Int32 × Int32 × Int32 × (Nat → Int32) × (Nat → Int32) × (Nat → Int32) × (Nat → Int32) × (Nat → Int32) × (Nat → Int32) × (Nat → Int32) × (Nat → Int32) × (Nat → Int32)) (fun q2 j v => wpX5_passMinutes_L40 (nI n) (nI (A 6)) (nI (A 4)) (nI (A 5)) lower higher kind size saltEnd (nI (A 1)) (nI (A 2)) (nI k) (nI (A 0 + k + 1)) (nI (zit A k 9)) co (fun v1 v2 v3 v4 v5 v6 v7 v8 v9 v10 v11 v12 v13 v14 v15 v16 => wpX5_passMinutes_L22 (nI n) (nI (A 4)) (nI (A 5)) lower higher kind size saltEnd (nI (A 1)) (nI (A 2)) (nI (A 6)) post q v1 v2 v3 v4 v5 v6 v7 v8 v9 v10 v11 v12 v13 v14 v15 v16) post q2 (nI j) v.1 v.2.1 v.2.2.1 v.2.2.2.1 v.2.2.2.2.1 v.2.2.2.2.2.1 v.2.2.2.2.2.2.1 v.2.2.2.2.2.2.2.1 v.2.2.2.2.2.2.2.2.1 v.2.2.2.2.2.2.2.2.2.1 v.2.2.2.2.2.2.2.2.2.2.1 v.2.2.2.2.2.2.2.2.2.2.2) (fun j v => zV (zps (zit A k) j) (fun i => C i + zkk A i k + zk1 (zit A k) i j) v.1 v.2.1 v.2.2.1 v.2.2.2.2.2.1 v.2.2.2.2.2.2.1 v.2.2.2.2.2.2.2.1 v.2.2.2.2.2.2.2.2.1 v.2.2.2.2.2.2.2.2.2.1 v.2.2.2.2.2.2.2.2.2.2.1 v.2.2.2.2.2.2.2.2.2.2.2) (A 2) 0 (c, p, f, r, s, sn, cl, pl, tg, m, w, o) (Nat.zero_le _) ?_ ?_ ?_
    · obtain ⟨x1, x2, x3, x4, x5, x6⟩ := w4
      show zV (zu (zit A k) 0 (zit A k 0 + 1)) (fun i => C i + zkk A i k + 0) c p f sn cl pl tg m w o
      refine ⟨by rw [zu_n (by omega)]; exact x1, by rw [zu_n (by omega)]; exact x2, by rw [zu_n (by omega)]; exact x3, ?_, ?_, zQ_eq hIk (zu_n (by omega)) (fun k hk => zu_n (by omega)) x6⟩
      · rw [zu_n (by omega)]
        intro i hi
        rw [x4 i hi]
        try dsimp only
        rw [zu_n (by omega)]
      · rw [zu_n (by omega)]
        exact x5
    · rintro q2 ⟨c, p, f, r, s, sn, cl, pl, tg, m, w, o⟩ hv2
      dsimp only at hv2
      obtain ⟨hIp, -⟩ := zps_I hIk (A 2) (by omega)
      have f1 : zps (zit A k) (A 2) 1 = A 1 := by rw [zps_k hIk (by omega) (by omega) (by omega), e1]
      have f2 : zps (zit A k) (A 2) 2 = A 2 := by rw [zps_k hIk (by omega) (by omega) (by omega), e2]
      have f0 : zps (zit A k) (A 2) 0 = A 0 + k + 1 := by rw [zps_0 hIk (by omega), htk]
      have f4 : zps (zit A k) (A 2) 4 = A 4 := by rw [zps_k hIk (by omega) (by omega) (by omega), e4]
      have f5 : zps (zit A k) (A 2) 5 = A 5 := by rw [zps_k hIk (by omega) (by omega) (by omega), e5]
      have f9 : zps (zit A k) (A 2) 9 = zit A k 9 := zps_o hIk (by omega) (by omega) (by omega) (fun i hi => by omega) _ (by omega)
      have hFk : zF (zps (zit A k) (A 2)) lower higher kind size saltEnd := zF_0 (zsm0_tr hsk (zps_s hIk (by omega))) hF
      have hco : zL co (zps (zit A k) (A 2) 1) (fun i => zps (zit A k) (A 2) (16 + 7 * i)) := by
        rw [f1]
        intro i hi
        rw [w3 i (by omega)]
        try dsimp only
        rw [zps_o hIk (k := 16 + 7 * i) (by omega) (by omega) (by omega) (fun i' hi' => by omega) _ (by omega)]
      have eC : (fun i => C i + zkk A i k + zk1 (zit A k) i (A 2)) = fun i => C i + zkk A i (k + 1) := by
        funext i
        show _ = C i + (zkk A i k + zk1 (zit A k) i (A 2))
        omega
      rw [eC] at hv2
      refine br_t (nI_le (Nat.le_refl _) (by omega)) ?_
      rw [show nI (A 0 + k + 1) - nI (A 0 + k + 1) / 60 * 60 = nI ((A 0 + k + 1) % 60) from pk_rem (d := 60) (by omega) (by omega) (by omega)]
      have eM : zmin (zit A k) = if (A 0 + k + 1) % 60 = 0 then zhour (zps (zit A k) (A 2)) else zps (zit A k) (A 2) := by
        unfold zmin
        rw [e2, f0]
      by_cases em : (A 0 + k + 1) % 60 = 0
      · refine br_m (by rw [em]; rfl) ?_
        have hh := k_hour (post := fun t_complained_v1 s_snow_v1 s_complained_v1 => wpX5_passMinutes_L22 (nI n) (nI (A 4)) (nI (A 5)) lower higher kind size saltEnd (nI (A 1)) (nI (A 2)) (nI (A 6)) post q (nI k + 1) (nI (A 0 + k + 1)) c p f t_complained_v1 r s s_snow_v1 s_complained_v1 cl pl tg m w o) hIp (by rw [f0]; omega) hFk.2.2.1 hv2.2.2.2.1 hFk.2.2.2.2 hco ?_
        · rw [f0, f4, f5, f9, f1] at hh
          exact hh
        · intro sn2 co2 hs2 hc2
          rw [nI_1]
          refine ih (nI (A 0 + k + 1), c, p, f, _, r, s, sn2, co2, cl, pl, tg, m, w, o) ?_
          try dsimp only
          have ez : zit A (k + 1) = zhour (zps (zit A k) (A 2)) := by
            show zmin (zit A k) = _
            rw [eM, if_pos em]
          have g1 : zhour (zps (zit A k) (A 2)) 1 = zps (zit A k) (A 2) 1 := zhour_lo (by omega)
          obtain ⟨x1, x2, x3, x4, x5, x6⟩ := hv2
          rw [ez]
          refine ⟨by rw [zhour_lo (by omega), f0], rfl, by rw [g1]; exact hc2, by rw [zhour_lo (by omega)]; exact x1, by rw [zhour_lo (by omega)]; exact x2, by rw [zhour_lo (by omega)]; exact x3, by rw [g1]; exact hs2, by rw [g1]; exact x5, ?_⟩
          refine zQ_eq hIp (zhour_lo (by omega)) (fun k hk => zhour_hi (by omega)) x6
      · refine br_n (nI_ne0 (by omega) (by omega)) ?_
        rw [nI_1]
        refine ih (nI (A 0 + k + 1), c, p, f, nI (zit A k 9), r, s, sn, co, cl, pl, tg, m, w, o) ?_
        try dsimp only
        have ez : zit A (k + 1) = zps (zit A k) (A 2) := by
          show zmin (zit A k) = _
          rw [eM, if_neg em]
        rw [ez]
        exact ⟨by rw [f0], by rw [f9], hco, hv2⟩
    · rintro q2 j ⟨c, p, f, r, s, sn, cl, pl, tg, m, w, o⟩ hj hv2 ih2
      dsimp only at hv2
      obtain ⟨hIp, -⟩ := zps_I hIk j (by omega)
      have f1 : zps (zit A k) j 1 = A 1 := by rw [zps_k hIk (by omega) (by omega) (by omega), e1]
      have f2 : zps (zit A k) j 2 = A 2 := by rw [zps_k hIk (by omega) (by omega) (by omega), e2]
      have hFk : zF (zps (zit A k) j) lower higher kind size saltEnd := zF_0 (zsm0_tr hsk (zps_s hIk (by omega))) hF
      refine br_f (nI_ge hj (by omega)) ?_
      rw [nI_1]
      have hp := k_plough (K := fun c p f r s sn cl pl tg m w o => wpX5_passMinutes_L40 (nI n) (nI (A 6)) (nI (A 4)) (nI (A 5)) lower higher kind size saltEnd (nI (A 1)) (nI (A 2)) (nI k) (nI (A 0 + k + 1)) (nI (zit A k 9)) co (fun v1 v2 v3 v4 v5 v6 v7 v8 v9 v10 v11 v12 v13 v14 v15 v16 => wpX5_passMinutes_L22 (nI n) (nI (A 4)) (nI (A 5)) lower higher kind size saltEnd (nI (A 1)) (nI (A 2)) (nI (A 6)) post q v1 v2 v3 v4 v5 v6 v7 v8 v9 v10 v11 v12 v13 v14 v15 v16) post q2 (nI (j + 1)) c p f r s sn cl pl tg m w o) (reach := r) (settled := s) hIp hFk hv2 (j := j) (by rw [f2]; exact hj) ?_
      · rw [f1, f2] at hp
        exact hp
      · intro c p f r s sn cl pl tg m w o hv3
        refine ih2 (c, p, f, r, s, sn, cl, pl, tg, m, w, o) ?_
        try dsimp only
        have eC : (fun i => C i + zkk A i k + zk1 (zit A k) i (j + 1)) = fun i => C i + zkk A i k + zk1 (zit A k) i j + if zpc (zps (zit A k) j) j = i then 1 else 0 := by
          funext i
          show C i + zkk A i k + (zk1 (zit A k) i j + if zpc (zps (zit A k) j) j = i then 1 else 0) = _
          omega
        rw [eC]
        exact hv3

