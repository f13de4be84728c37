/-! begun, acts, law -/
/-- an int that isn't far below 0, nor far above -/
def zGe (s : Int32) (k : Nat) : Prop := -(900003 * (k : Int)) ≤ s.toInt ∧ s.toInt ≤ 1000000 * (k : Int)
theorem zGe_0 : zGe 0 0 := by unfold zGe; decide
theorem zGe_n {n : Nat} (h : n ≤ 1000000) : zGe (nI n) 1 := by
  unfold zGe
  rw [nI_toInt (by omega)]
  omega
theorem zGe_b {r : Int32} (h : r = -900001 ∨ r = -900002 ∨ r = -900003) : zGe r 1 := by
  rcases h with rfl | rfl | rfl <;> (unfold zGe; decide)
theorem zGe_p {s t : Int32} {k m n : Nat} (h1 : zGe s k) (h2 : zGe t m) (hn : k + m = n) (h9 : n ≤ 90) : zGe (s + t) n := by
  unfold zGe at *
  rw [Int32.toInt_add, Int.bmod_eq_of_le (by omega) (by omega)]
  omega
theorem zGe_le {s : Int32} {k : Nat} (h : zGe s k) (hk : k ≤ 90) : ¬ s ≤ -90000000 ∧ -90000000 ≤ s := by
  unfold zGe at h
  have e : (-90000000 : Int32).toInt = -90000000 := by decide
  rw [Int32.le_iff_toInt_le, Int32.le_iff_toInt_le, e]
  omega
theorem zRq.weak {tb : Nat} {Z : (Nat → Nat) → Prop} {A : Nat → Nat} {c : Nat} {h : Nat → Nat → Nat} {E : Prop} {E' : (Nat → Nat) → Prop} {r : Int32} {V : DV} (q : zRq tb Z A c h E E' r V) : zRq tb Z A c h True (fun _ => True) r V := by
  rcases q with ⟨a, -, b⟩ | ⟨n, B, c', h', e1, e2, -, e4⟩
  · exact Or.inl ⟨a, trivial, b⟩
  · exact Or.inr ⟨n, B, c', h', e1, e2, trivial, e4⟩
theorem zRq.any {tb : Nat} {Z : (Nat → Nat) → Prop} {A : Nat → Nat} {c : Nat} {h : Nat → Nat → Nat} {E : Prop} {E' : (Nat → Nat) → Prop} {r : Int32} {V : DV} (q : zRq tb Z A c h E E' r V) : zGe r 1 ∧ ∃ B c' h', zST (tb + 6000) Z B c' h' V ∧ zGo A B ∧ ((E ∧ B = A) ∨ E' B) := by
  rcases q with ⟨a, e, b⟩ | ⟨n, B, c', h', rfl, e2, e3, -, -, e5⟩
  · exact ⟨zGe_b a, A, c, h, b.mono (by omega), zGo_rf, Or.inl ⟨e, rfl⟩⟩
  · exact ⟨zGe_n (by have := e2.1; omega), B, c', h', e5, e2.2, Or.inr e3⟩
theorem q_in {z_len : Nat} {z_txt : Nat → Int32} (hz : z_len < 2 ^ 31) {x1 x2 : Int32} {i n : Nat} (h1 : x1 = nI i) (hi : i < 1000) (h2 : x2 = nI n) (hn : 0 < n) (hn9 : n < 1000) {post : Int32 → Prop} (hp : ∀ k : Nat, k < n → post (nI k)) : wpL_in z_len z_txt x1 x2 post := by
  subst h1 h2
  have fin : ∀ X : Int32, (¬ nI n = 0 ∧ post ((X &&& 2147483647) - (X &&& 2147483647) / nI n * nI n)) := by
    intro X
    obtain ⟨j, hj, ej⟩ := pk_andE X (m := 2147483647) 31 (by decide)
    rw [ej, pk_rem hj hn (by omega)]
    exact ⟨nI_ne0 hn (by omega), hp _ (Nat.mod_lt _ hn)⟩
  unfold wpL_in wpL_cell wpL_cell_L15
  refine ⟨fun _ => fin _, fun q => ⟨?_, fin _⟩⟩
  by_cases e : z_len ≤ i
  · exact absurd (nI_le e (by omega)) q
  · exact vp_in_nI (by omega) hz
/-- a new dispatcher -/
theorem zJ_0 : zJ (fun _ => 0) := ⟨rfl, fun j hj => absurd hj (Nat.not_lt_zero j)⟩
theorem q_new {b1 b2 : Nat → Nat} : zST 0 (fun _ => False) (fun _ => 0) 0 (fun _ _ => 0) (zDV0 b1 b2) := by
  have hT : zTT (fun _ => 0) zTT0 := by
    refine ⟨⟨by dsimp only; omega, fun i hi => absurd hi (Nat.not_lt_zero i), fun _ _ _ _ _ => rfl, fun i _ hi => absurd hi (Nat.not_lt_zero i), fun j hj => absurd hj (Nat.not_lt_zero j), fun _ _ _ _ _ => rfl⟩, ⟨rfl, rfl, rfl, rfl, rfl, rfl, rfl, rfl⟩, ⟨rfl, ?_, ?_, ?_, ?_, ?_, ?_, ?_⟩, ⟨rfl, ?_, ?_, ?_, ?_, ?_⟩, fun _ _ => rfl, fun _ => 0, ?_, fun i hi => absurd hi (Nat.not_lt_zero i)⟩
    all_goals exact fun i hi => absurd hi (Nat.not_lt_zero i)
  exact ⟨Nat.le_refl 0, hT, ⟨0, by omega, by omega, rfl, rfl, fun i hi => absurd hi (Nat.not_lt_zero i)⟩, fun S hS => hS.elim, ⟨Or.inl rfl, fun _ _ => rfl, by omega, by omega, rfl, fun i hi => absurd hi (Nat.not_lt_zero i)⟩, rfl, 0, by omega, rfl⟩
section LAW
variable {z_len : Nat} {z_txt : Nat → Int32}
theorem q_begun (hz : z_len < 2 ^ 31) {post : (Nat → Nat → Nat) → (Nat → Nat → Nat) → DV → Prop} (hp : ∀ a ra V A c h, zST 132000 (fun _ => False) A c h V → zWl A → post a ra V) : wpL_begun z_len z_txt post := by
  unfold wpL_begun
  intro a ra b1 b2
  refine q_in hz (i := 0) (n := 5) rfl (by omega) rfl (by omega) (by omega) (fun k0 hk0 => ?_)
  rw [show (4 : Int32) + nI k0 = nI (4 + k0) from nI_add 4 k0]
  refine pk_loopB (σ := Int32 × DV) (fun n i s => wpL_begun_L22 z_len z_txt post n s.1 (nI (4 + k0)) (nI i) a ra s.2) (fun i s => zGe s.1 i ∧ ∃ A c h, zST (6000 * i) (fun _ => False) A c h s.2 ∧ zJ A) 9 0 (0, zDV0 b1 b2) (by omega) (by omega) ⟨zGe_0, _, _, _, q_new, zJ_0⟩ ?_ ?_
  · rintro n ⟨s, V⟩ ⟨hs, A, c, h, hV, hJ⟩
    dsimp only at hs hV
    show wpL_begun_L22 z_len z_txt post (n + 1) s (nI (4 + k0)) (nI 9) a ra V
    unfold wpL_begun_L22
    refine br_t (by decide) (q_addStreet (by omega) hV (fun r2 V2 q2 => ?_))
    obtain ⟨g2, B2, c2, h2, hV2, hgo2, hE2⟩ := q2.any
    have h1 : 1 ≤ B2 1 := by
      rcases hE2 with ⟨e, rfl⟩ | e
      · exact e rfl rfl rfl rfl
      · exact e
    refine q_in hz (i := 37) (n := 8) rfl (by omega) rfl (by omega) (by omega) (fun k1 hk1 => q_addPlough (by omega) hV2 (fun r4 V4 q4 => ?_))
    obtain ⟨g4, B4, c4, h4, hV4, hgo4, hE4⟩ := q4.any
    have hp2 : 1 ≤ B4 2 := by
      rcases hE4 with ⟨e, rfl⟩ | e
      · exact e ⟨k1, hk1, rfl⟩
      · exact e
    refine q_in hz (i := 38) (n := 4 + k0) rfl (by omega) rfl (by omega) (by omega) (fun k2 hk2 => q_addPlough (by omega) hV4 (fun r6 V6 q6 => ?_))
    obtain ⟨g6, B6, c6, h6, hV6, hgo6, hE6⟩ := q6.any
    have hW : zWl B6 := zWl.go (A := B4) ⟨hgo4.2.2 (hgo2.2.2 hJ), Nat.le_trans h1 hgo4.1, hp2⟩ hgo6
    have gs : zGe (s + ((r2 + r4) + r6)) 12 := zGe_p hs (zGe_p (zGe_p g2 g4 rfl (by omega)) g6 rfl (by omega)) rfl (by omega)
    refine pk_loopB (σ := Int32 × DV) (fun n i s => wpL_begun_L128 z_len z_txt post n s.1 (nI i) a ra s.2) (fun i s => zGe s.1 (12 + i) ∧ ∃ A c h, zST (72000 + 6000 * i) (fun _ => False) A c h s.2 ∧ zWl A) 5 0 (_, V6) (by omega) (by omega) ⟨gs, B6, c6, h6, hV6, hW⟩ ?_ ?_
    · rintro n ⟨s, V⟩ ⟨hs, A, c, h, hV, hW⟩
      dsimp only at hs hV
      show wpL_begun_L128 z_len z_txt post (n + 1) s (nI 5) a ra V
      unfold wpL_begun_L128
      refine br_t (by decide) (q_in hz (i := 49) (n := 60) rfl (by omega) rfl (by omega) (by omega) (fun k7 hk7 => q_loadSalt (by omega) hV (fun r8 V8 q8 => ?_)))
      obtain ⟨g8, B8, c8, h8, hV8, hgo8, -⟩ := q8.any
      refine q_in hz (i := 50) (n := 10) rfl (by omega) rfl (by omega) (by omega) (fun k9 hk9 => q_setSnowfall (by omega) hV8 (fun r10 V10 q10 => ?_))
      obtain ⟨g10, B10, c10, h10, hV10, hgo10, -⟩ := q10.any
      refine q_in hz (i := 51) (n := 10) rfl (by omega) rfl (by omega) (by omega) (fun k11 hk11 => q_setWind (by omega) hV10 (fun r12 V12 q12 => ?_))
      obtain ⟨g12, B12, c12, h12, hV12, hgo12, -⟩ := q12.any
      refine q_salt (by omega) hV12 (fun r13 V13 q13 => ?_)
      obtain ⟨g13, B13, c13, h13, hV13, hgo13, -⟩ := q13.any
      have hW13 : zWl B13 := (((hW.go hgo8).go hgo10).go hgo12).go hgo13
      have gs2 : zGe (s + (((r8 + r10) + r12) + r13)) 21 := zGe_p hs (zGe_p (zGe_p (zGe_p g8 g10 rfl (by omega)) g12 rfl (by omega)) g13 rfl (by omega)) rfl (by omega)
      refine q_in hz (i := 52) (n := 2) rfl (by omega) rfl (by omega) (by omega) (fun k14 hk14 => ⟨fun _ => ?_, fun _ => ?_⟩)
      · exact br_t (zGe_le (zGe_p gs2 zGe_0 rfl (by omega)) (by omega)).2 (hp _ _ _ _ _ _ (hV13.mono (by omega)) hW13)
      · refine q_in hz (i := 53) (n := 300) rfl (by omega) rfl (by omega) (by omega) (fun k15 hk15 => q_advance (by omega) hV13 (fun r16 V16 q16 => ?_))
        obtain ⟨g16, B16, c16, h16, hV16, hgo16, -⟩ := q16.any
        exact br_t (zGe_le (zGe_p gs2 g16 rfl (by omega)) (by omega)).2 (hp _ _ _ _ _ _ (hV16.mono (by omega)) (hW13.go hgo16))
    · rintro n i ⟨s, V⟩ hi ⟨hs, A, c, h, hV, hW⟩ ih
      dsimp only at hs hV
      have hA := hV.I.1
      have hw1 := hW.2.1
      show wpL_begun_L128 z_len z_txt post (n + 1) s (nI i) a ra V
      unfold wpL_begun_L128
      refine br_f (nI_ge (b := 5) hi (by omega)) (q_in hz (nI_add 39 i) (by omega) (n := 2) rfl (by omega) (by omega) (fun k17 hk17 => q_streetCount hV (q_in hz (nI_add 44 i) (by omega) rfl (by omega) (by omega) (fun k19 hk19 => q_order (by omega) hV (fun r20 V20 q20 => ?_)))))
      obtain ⟨g20, B20, c20, h20, hV20, hgo20, -⟩ := q20.any
      rw [nI_1]
      exact ih (_, V20) ⟨zGe_p hs g20 (by omega) (by omega), B20, c20, h20, hV20.mono (by omega), hW.go hgo20⟩
  · rintro n i ⟨s, V⟩ hi ⟨hs, A, c, h, hV, hJ⟩ ih
    dsimp only at hs hV
    show wpL_begun_L22 z_len z_txt post (n + 1) s (nI (4 + k0)) (nI i) a ra V
    unfold wpL_begun_L22
    refine br_f (nI_ge (b := 9) hi (by omega)) (q_in hz (nI_add 1 i) (by omega) rfl (by omega) (by omega) (fun k21 hk21 => q_in hz (nI_add 10 i) (by omega) rfl (by omega) (by omega) (fun k22 hk22 => q_in hz (nI_add 19 i) (by omega) (n := 3) rfl (by omega) (by omega) (fun k23 hk23 => q_in hz (nI_add 28 i) (by omega) (n := 6) rfl (by omega) (by omega) (fun k24 hk24 => q_addStreet (by omega) hV (fun r25 V25 q25 => ?_))))))
    obtain ⟨g25, B25, c25, h25, hV25, hgo25, -⟩ := q25.any
    rw [nI_1]
    exact ih (_, V25) ⟨zGe_p hs g25 (by omega) (by omega), B25, c25, h25, hV25.mono (by omega), hgo25.2.2 hJ⟩
theorem q_acts (hz : z_len < 2 ^ 31) {tb : Nat} {Z : (Nat → Nat) → Prop} {A : Nat → Nat} {c : Nat} {h : Nat → Nat → Nat} {V : DV} (htb : tb + 6000 < 2 ^ 29) (hV : zST tb Z A c h V) {i : Nat} (hi : i < 900) {post : Int32 → DV → Prop} (hp : ∀ r V', zRq tb Z A c h True (fun _ => True) r V' → post r V') : wpL_acts z_len z_txt (nI i) V post := by
  unfold wpL_acts
  refine q_in hz (nI_add i 1) (by omega) (n := 9) rfl (by omega) (by omega) (fun k1 hk1 => q_in hz (nI_add i 2) (by omega) (n := 13) rfl (by omega) (by omega) (fun k2 hk2 => q_in hz (nI_add i 3) (by omega) (n := 70) rfl (by omega) (by omega) (fun k3 hk3 => q_in hz rfl (by omega) (n := 22) rfl (by omega) (by omega) (fun k4 hk4 => ?_))))
  have h206 : wpL_acts_L206 z_len z_txt post (nI k3) V := by
    unfold wpL_acts_L206
    exact ⟨fun _ => q_advance htb hV hp, fun _ => q_advance htb hV hp⟩
  refine ⟨fun _ => q_addStreet htb hV (fun r V' q => hp r V' q.weak), fun _ => ⟨fun _ => q_addPlough htb hV (fun r V' q => hp r V' q.weak), fun _ => ⟨fun _ => q_order htb hV hp, fun _ => ⟨fun _ => q_order htb hV hp, fun _ => ⟨fun _ => q_order htb hV hp, fun _ => ⟨fun _ => q_order htb hV hp, fun _ => ⟨fun _ => q_cancelOrder htb hV hp, fun _ => ⟨fun _ => q_salt htb hV hp, fun _ => ⟨fun _ => q_salt htb hV hp, fun _ => ⟨fun _ => q_loadSalt htb hV hp, fun _ => ⟨fun _ => q_setSnowfall htb hV hp, fun _ => ⟨fun _ => q_setWind htb hV hp, fun _ => ⟨fun _ => h206, fun _ => ⟨fun _ => h206, fun _ => ⟨fun _ => h206, fun _ => ⟨fun _ => h206, fun _ => ⟨fun _ => h206, fun _ => ?_⟩⟩⟩⟩⟩⟩⟩⟩⟩⟩⟩⟩⟩⟩⟩⟩⟩
  intro a_y at_y
  rw [show (1 : Int32) + nI k3 = nI (1 + k3) from nI_add 1 k3, show nI k1 - nI k1 / 4 * 4 = nI (k1 % 4) from pk_rem (d := 4) (by omega) (by omega) (by omega), show nI k1 - nI k1 / 3 * 3 = nI (k1 % 3) from pk_rem (d := 3) (by omega) (by omega) (by omega)]
  refine s_lw (n := 0) (v := 9) zSb_0 (by omega) (by omega) (by omega) (fun m1 a1 p1 b1 hm1 hb1 => s_num hb1 (by omega) (by omega) (fun m2 a2 p2 b2 hm2 hm2' hb2 => ?_))
  have fin : ∀ {m3 p3 : Nat} {b3 : Nat → Int32}, m3 ≤ 20 → zSb m3 p3 b3 → wpS_str (nI m3) p3 b3 (fun a_y321 at_y321 n_y321 f_y321 => wpJ4_append_15ec4_gw (nI (0 + m1 + m2)) a2 p2 b2 n_y321 f_y321 (fun c_y229_v34 at_y229_v34 n_y229_v34 f_y229_v34 => wpS_str c_y229_v34 n_y229_v34 f_y229_v34 (fun a_y363 at_y363 n_y363 f_y363 => wpL_does V n_y363 f_y363 (fun r36 V_dw0_v36 => post r36 V_dw0_v36)))) := by
    intro m3 p3 b3 hm3 hb3
    refine s_str hb3 (fun a at_ f1 hf1 => s_app hb2 (by omega) hf1 (fun a4 p4 b4 hb4 => s_str hb4 (fun a5 at5 f5 hf5 => q_does htb hV (by omega) hf5 hp)))
  refine ⟨fun _ => ⟨fun _ => ?_, fun _ => ?_⟩, fun _ => ?_⟩
  · intro a_y3 at_y3
    exact s_lw (n := 0) (v := 14) zSb_0 (by omega) (by omega) (by omega) (fun m3 a3 p3 b3 hm3 hb3 => s_num hb3 (by omega) (by omega) (fun m4 a4 p4 b4 hm4 hm4' hb4 => s_lw (v := 17) hb4 (by omega) (by omega) (by omega) (fun m5 a5 p5 b5 hm5 hb5 => s_num hb5 (by omega) (by omega) (fun m6 a6 p6 b6 hm6 hm6' hb6 => fin (by omega) hb6))))
  · intro a_y3 at_y3
    exact s_lw (n := 0) (v := 12) zSb_0 (by omega) (by omega) (by omega) (fun m3 a3 p3 b3 hm3 hb3 => s_num hb3 (by omega) (by omega) (fun m4 a4 p4 b4 hm4 hm4' hb4 => s_lw (v := 13) hb4 (by omega) (by omega) (by omega) (fun m5 a5 p5 b5 hm5 hb5 => s_num hb5 (by omega) (by omega) (fun m6 a6 p6 b6 hm6 hm6' hb6 => fin (by omega) hb6))))
  · intro a_y3 at_y3
    exact s_lw (n := 0) (v := 10) zSb_0 (by omega) (by omega) (by omega) (fun m3 a3 p3 b3 hm3 hb3 => s_num hb3 (by omega) (by omega) (fun m4 a4 p4 b4 hm4 hm4' hb4 => s_lw (v := 11) hb4 (by omega) (by omega) (by omega) (fun m5 a5 p5 b5 hm5 hb5 => s_num hb5 (by omega) (by omega) (fun m6 a6 p6 b6 hm6 hm6' hb6 => fin (by omega) hb6))))
theorem q_law (hz : z_len < 2 ^ 31) {post : Int32 → Prop} (hp : post 1) : wpL_law z_len z_txt post := by
  unfold wpL_law
  refine q_begun hz (fun a ra V A c h hV hW => q_well (by omega) hW.1 hV (fun V2 hV2 => br_n (by decide) ?_))
  refine pk_loopB (σ := DV) (fun n k W => wpL_law_L20 z_len z_txt post n (nI k) a ra W) (fun k W => ∃ A c h, zST (132000 + 6000 * k) (fun _ => False) A c h W ∧ zWl A) 8 0 V2 (by omega) (by omega) ⟨A, c, h, hV2, hW⟩ ?_ ?_
  · rintro n W ⟨A, c, h, hV, hW⟩
    have h1 := hW.2.1
    have h2 := hW.2.2
    have hA := hV.I.1
    show wpL_law_L20 z_len z_txt post (n + 1) (nI 8) a ra W
    unfold wpL_law_L20
    refine br_t (by decide) (q_seen (by omega) hV (fun at1 => q_save hV (fun V3 hV3 => q_until hV3 (by omega) (by omega) (fun r5 V5 e5 hV5 => q_depthLater hV5 (by omega) (by omega) (fun n6 V6 e6 hV6 => q_urgency hV6 (fun r7 e7 => q_renderStreet hV6 (by omega) (by omega) (fun n8 V8 e8 hV8 => q_renderQueue hV8 (by omega) (fun n9 V9 e9 hV9 => q_seen (by omega) hV9 (fun at2 => q_alike (br_n (by decide) ?_))))))))))
    refine q_advance (by omega) hV9 (fun r12 V12 q12 => ?_)
    obtain ⟨g12, B12, c12, h12, hV12, -⟩ := q12.any
    refine q_order (by omega) hV12 (fun r13 V13 q13 => ?_)
    obtain ⟨g13, B13, c13, h13, hV13, -⟩ := q13.any
    refine q_setSnowfall (by omega) hV13 (fun r14 V14 q14 => ?_)
    obtain ⟨g14, B14, c14, h14, hV14, -⟩ := q14.any
    refine q_setWind (by omega) hV14 (fun r15 V15 q15 => ?_)
    obtain ⟨g15, B15, c15, h15, hV15, -⟩ := q15.any
    refine q_loadSalt (by omega) hV15 (fun r16 V16 q16 => ?_)
    obtain ⟨g16, B16, c16, h16, hV16, -⟩ := q16.any
    have g5 : zGe r5 1 := by
      rcases e5 with ⟨m, hm, rfl⟩ | rfl
      · exact zGe_n (by omega)
      · exact zGe_b (Or.inr (Or.inl rfl))
    have g7 : zGe r7 1 := by
      rcases e7 with ⟨m, hm, rfl⟩ | rfl
      · exact zGe_n (by omega)
      · exact zGe_b (Or.inl rfl)
    have gA : zGe ((((r5 + nI n6) + r7) + nI n8) + nI n9) 5 := zGe_p (zGe_p (zGe_p (zGe_p g5 (zGe_n (by omega)) rfl (by omega)) g7 rfl (by omega)) (zGe_n (by omega)) rfl (by omega)) (zGe_n (by omega)) rfl (by omega)
    have gB : zGe ((((r12 + r13) + r14) + r15) + r16) 5 := zGe_p (zGe_p (zGe_p (zGe_p g12 g13 rfl (by omega)) g14 rfl (by omega)) g15 rfl (by omega)) g16 rfl (by omega)
    refine br_f (zGe_le (zGe_p gA gB rfl (by omega)) (by omega)).1 (q_restore hV16 rfl (by have := hV.1; omega) (fun V17 hV17 => br_m rfl (q_seen (by omega) hV17 (fun at3 => q_alike (br_f (by decide) (q_undo0 hV17 rfl (br_m rfl hp)))))))
  · rintro n k W hk ⟨A, c, h, hV, hW⟩ ih
    have h79 : ∀ (r : Int32) (V' : DV) (at1 : Nat → Nat) (B : Nat → Nat) (c' : Nat) (h' : Nat → Nat → Nat), (r ≤ -900000 ∨ 0 < c' ∧ h' (c' - 1) = A) → zST (132000 + 6000 * (k + 1)) (fun _ => False) B c' h' V' → zWl B → wpL_law_L79 z_len z_txt (fun v1 v2 v3 v4 => wpL_law_L20 z_len z_txt post n v1 v2 v3 v4) post (nI k) r a ra V' at1 (zsn A) := by
      intro r V' at1 B c' h' hr hV' hW'
      unfold wpL_law_L79
      rw [nI_1]
      refine ⟨fun _ => ih V' ⟨B, c', h', hV', hW'⟩, fun q => q_in hz (nI_add 87 k) (by omega) (n := 5) rfl (by omega) (by omega) (fun k24 _ => ⟨fun _ => ih V' ⟨B, c', h', hV', hW'⟩, fun _ => ?_⟩)⟩
      rcases hr with hr | ⟨hc, ht⟩
      · exact absurd hr q
      · refine q_undo hV' hc (fun m V3 hm hV3 => br_f (nI_pos (by omega)) ?_)
        rw [ht] at hV3
        exact q_seen (by omega) hV3 (fun at2 => q_alike (br_n (by decide) (ih V3 ⟨A, c' - 1, h', hV3, hW⟩)))
    show wpL_law_L20 z_len z_txt post (n + 1) (nI k) a ra W
    unfold wpL_law_L20
    rw [show (54 : Int32) + 4 * nI k = nI (54 + 4 * k) by rw [show (4 : Int32) * nI k = nI (4 * k) from z_ml 4 k]; exact nI_add 54 (4 * k)]
    refine br_f (nI_ge (b := 8) hk (by omega)) (q_seen (by omega) hV (fun at1 => q_acts hz (by omega) hV (by omega) (fun r V1 q => ?_)))
    rcases q with ⟨hb, -, hV1⟩ | ⟨m, B, c', h', rfl, hg, -, hc, ht, hV1⟩
    · have hle : r ≤ -900000 := by rcases hb with rfl | rfl | rfl <;> decide
      have hne : ¬ r = -900009 := by rcases hb with rfl | rfl | rfl <;> decide
      refine q_well (by omega) hW.1 hV1 (fun V2 hV2 => br_f (by decide) (br_f hne (br_f (fun q => absurd hle (Int32.not_le.mpr q)) (q_seen (by omega) hV2 (fun at2 => q_alike (br_n (by decide) ?_))))))
      exact h79 r V2 at1 A c h (Or.inl hle) (hV2.mono (by omega)) hW
    · have hWB := hW.go hg.2
      have hm := hg.1
      refine q_well (by omega) hWB.1 hV1 (fun V2 hV2 => br_f (by decide) (br_f (fun q => z_neg (r := m) (by omega) (x := -900009) (by decide) q) (br_t ?_ ?_)))
      · rw [Int32.lt_iff_toInt_lt, nI_toInt (by omega)]
        have e : (-900000 : Int32).toInt = -900000 := by decide
        omega
      · exact h79 (nI m) V2 at1 B c' h' (Or.inr ⟨hc, ht⟩) (hV2.mono (by omega)) hWB
end LAW
