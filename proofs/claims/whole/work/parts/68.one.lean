/-! scripts: one command, by its form -/
theorem zwd_l : ∀ k : Nat, k < 18 → ∀ w : Nat, w ∈ zwd k → w ≠ 35 ∧ w ≠ 37 ∧ w ≠ 64 := by decide +kernel
/-- word, digit -/
theorem k_t1 {n : Nat} {tp : Nat → Int32} {x : Nat → Nat} (h : zMX n tp x) {v a i w k : Nat} (hw : 9 ≤ w ∧ w < 18) (hk : k ≤ 9) (ha : a ≤ 60) (hi : i ≤ 2) {c : Int32} {M0 M : Nat → Int32} (hR : zRs (zsg n x) v a i (zwd w ++ [35]) 0 (fun _ => 0)) (hM : zRw k c 0 (fun _ => 0) M0 M) {post : Int32 → Int32 → (Nat → Int32) → Prop}
    (h1 : zmt (zsg n x) a v → ∀ M', zRw k c (zcv (zsg n x) a v).1 (zcv (zsg n x) a v).2.1 M0 M' → post 1 (nI (zcv (zsg n x) a v).2.2) M')
    (h0 : ¬ zmt (zsg n x) a v → ∀ M', post 0 (nI (a + zft (zsg n x) (zfm v) a)) M') :
    wpX7_isWord (gLen.getD w 0) (fun j => (gByt.getD w []).getD j 0) (nI n) (nI (a + i)) tp (fun r1 m1 => ((r1 = 0 → post 0 m1 M) ∧ (¬ r1 = 0 → wpX7_isNumber 1 (nI (5 * k) + 1) (nI n) m1 tp M (fun r2 m2 M2 => ((r2 = 0 → post 0 m2 M2) ∧ (¬ r2 = 0 → post 1 m2 M2)))))) := by
  have h6 := zwd_6 w hw.2
  refine k_wrd h hw (by omega) (fun e => br_f (by decide) ?_) (fun e => br_t rfl ?_)
  · have R1 := zRs_w hR (zwd_l w hw.2) (by omega) e
    rw [nI_1]
    refine k_mnum h (lim := 1) (by omega) (by omega) (by omega) (by omega) (fun d => br_f (by decide) ?_) (fun d => br_t rfl ?_)
    · have R2 := zRs_e (zRs_d R1 (by omega) (by rw [← Nat.add_assoc]; exact d))
      have q := h1 R2.1
      rw [R2.2] at q
      rw [zrn_y d]
      have q2 := q _ (zRw_s (v := zsg n x (a + (i + (zwd w).length)) - 48) hM)
      rw [show a + (i + (zwd w).length) = a + i + (zwd w).length by omega] at q2
      rw [show 10 * 0 + (zsg n x (a + i + (zwd w).length) - 48) = zsg n x (a + i + (zwd w).length) - 48 by omega]
      have q3 : post 1 (nI (a + (i + (zwd w).length + 1))) _ := q2
      rw [show a + (i + (zwd w).length + 1) = a + i + (zwd w).length + 1 by omega] at q3
      exact q3
    · have R2 := zRs_n R1 (fun z => d (by rw [← Nat.add_assoc] at z; exact zok_d.mp z))
      rw [show a + i + (zwd w).length = a + (i + (zwd w).length) by omega, R2.2]
      exact h0 R2.1 _
  · have R2 := zRs_wn hR e
    rw [R2.2]
    exact h0 R2.1 _
/-- word, number -/
theorem k_t3 {n : Nat} {tp : Nat → Int32} {x : Nat → Nat} (h : zMX n tp x) {v a i w k : Nat} (hw : 9 ≤ w ∧ w < 18) (hk : k ≤ 9) (ha : a ≤ 60) (hi : i ≤ 2) {c : Int32} {M0 M : Nat → Int32} (hR : zRs (zsg n x) v a i (zwd w ++ [37]) 0 (fun _ => 0)) (hM : zRw k c 0 (fun _ => 0) M0 M) {post : Int32 → Int32 → (Nat → Int32) → Prop}
    (h1 : zmt (zsg n x) a v → ∀ M', zRw k c (zcv (zsg n x) a v).1 (zcv (zsg n x) a v).2.1 M0 M' → post 1 (nI (zcv (zsg n x) a v).2.2) M')
    (h0 : ¬ zmt (zsg n x) a v → ∀ M', post 0 (nI (a + zft (zsg n x) (zfm v) a)) M') :
    wpX7_isWord (gLen.getD w 0) (fun j => (gByt.getD w []).getD j 0) (nI n) (nI (a + i)) tp (fun r1 m1 => ((r1 = 0 → post 0 m1 M) ∧ (¬ r1 = 0 → wpX7_isNumber 3 (nI (5 * k) + 1) (nI n) m1 tp M (fun r2 m2 M2 => ((r2 = 0 → post 0 m2 M2) ∧ (¬ r2 = 0 → post 1 m2 M2)))))) := by
  have h6 := zwd_6 w hw.2
  refine k_wrd h hw (by omega) (fun e => br_f (by decide) ?_) (fun e => br_t rfl ?_)
  · have R1 := zRs_w hR (zwd_l w hw.2) (by omega) e
    rw [nI_1]
    refine k_mnum h (lim := 3) (by omega) (by omega) (by omega) (by omega) (fun d => br_f (by decide) ?_) (fun d => br_t rfl ?_)
    · have R2 := zRs_m R1 (by omega) (by rw [← Nat.add_assoc]; exact d)
      have q := h1 R2.1
      rw [R2.2, show a + (i + (zwd w).length) = a + i + (zwd w).length by omega] at q
      exact q _ (zRw_s hM)
    · have R2 := zRs_n R1 (fun z => d (by rw [← Nat.add_assoc] at z; exact zok_m.mp z))
      rw [show a + i + (zwd w).length = a + (i + (zwd w).length) by omega, R2.2]
      exact h0 R2.1 _
  · have R2 := zRs_wn hR e
    rw [R2.2]
    exact h0 R2.1 _
/-- by the first signs -/
def zrho (sg : Nat → Nat) (a : Nat) : Nat := if sg a = 115 then (if sg (a + 1) = 116 then 0 else if sg (a + 1) = 97 then 4 else 6) else if sg a = 119 then (if sg (a + 1) = 105 then 7 else 8) else if sg a = 112 then 1 else if sg a = 111 then 2 else if sg a = 99 then 3 else if sg a = 108 then 5 else 9
def zlt (v : Nat) : Int32 := if v = 0 then 115 else if v = 1 then 112 else if v = 2 then 111 else if v = 3 then 99 else if v = 4 then 83 else if v = 5 then 108 else if v = 6 then 110 else if v = 7 then 119 else 116
/-- what a reader of a command needs -/
def zPS (sg : Nat → Nat) (a k : Nat) (M0 : Nat → Int32) (post : Int32 → Int32 → (Nat → Int32) → Prop) : Prop :=
  (zmt sg a (zrho sg a) → ∀ M', zRw k (zlt (zrho sg a)) (zcv sg a (zrho sg a)).1 (zcv sg a (zrho sg a)).2.1 M0 M' → post 1 (nI (zcv sg a (zrho sg a)).2.2) M') ∧
  (¬ zmt sg a (zrho sg a) → ∀ M', post 0 (nI (a + zft sg (zfm (zrho sg a)) a)) M')
theorem k_rW {n : Nat} {tp : Nat → Int32} {x : Nat → Nat} (h : zMX n tp x) {a k : Nat} (hk : k ≤ 9) (ha : a ≤ 60) (e0 : zsg n x a = 119) {M0 M : Nat → Int32} (hM : ∀ j : Nat, j < 5 * k → M j = M0 j) (hMc : M (5 * k) = 119) {post : Int32 → Int32 → (Nat → Int32) → Prop} (hp : zPS (zsg n x) a k M0 post) :
    wpX7_readsW (nI (5 * k)) (nI n) (nI (a + 1)) tp M post := by
  unfold wpX7_readsW
  have hM1 : zRw k 119 0 (fun _ => 0) M0 M := ⟨hMc, fun q hq => absurd hq (Nat.not_lt_zero q), hM⟩
  refine k_mis (w := 105) h (by omega) (by omega) (by omega) (fun e => br_f (by decide) ?_) (fun e => br_t rfl ⟨vp_in_nI (by omega) (by omega), ?_⟩)
  · have er : zrho (zsg n x) a = 7 := by unfold zrho; rw [e0, e]; rfl
    unfold zPS at hp
    rw [er] at hp
    exact k_t1 h (v := 7) (i := 2) (by omega) hk ha (by omega) (zRs_l (zRs_0 (v := 7) (r := 105 :: (zwd 12 ++ [35])) rfl (by decide) e0) (by decide) (by omega) e) hM1 hp.1 hp.2
  · have er : zrho (zsg n x) a = 8 := by unfold zrho; rw [e0, if_neg (by omega), if_pos rfl, if_neg e]
    unfold zPS at hp
    rw [er] at hp
    rw [nI_clamp (by omega)]
    exact k_t3 h (v := 8) (i := 1) (by omega) hk ha (by omega) (zRs_0 (v := 8) (r := zwd 13 ++ [37]) rfl (by decide) e0) (zRw_c hM1) hp.1 hp.2
theorem k_rS {n : Nat} {tp : Nat → Int32} {x : Nat → Nat} (h : zMX n tp x) {a k : Nat} (hk : k ≤ 9) (ha : a ≤ 60) (e0 : zsg n x a = 115) {M0 M : Nat → Int32} (hM : ∀ j : Nat, j < 5 * k → M j = M0 j) (hMc : M (5 * k) = 115) {post : Int32 → Int32 → (Nat → Int32) → Prop} (hp : zPS (zsg n x) a k M0 post) :
    wpX7_readsS (nI (5 * k)) (nI n) (nI (a + 1)) tp M post := by
  unfold wpX7_readsS
  have hM1 : zRw k 115 0 (fun _ => 0) M0 M := ⟨hMc, fun q hq => absurd hq (Nat.not_lt_zero q), hM⟩
  refine k_mis (w := 116) h (by omega) (by omega) (by omega) (fun e => br_f (by decide) ?_) (fun e => br_t rfl (k_mis (w := 97) h (by omega) (by omega) (by omega) (fun e2 => br_f (by decide) ⟨vp_in_nI (by omega) (by omega), ?_⟩) (fun e2 => br_t rfl ⟨vp_in_nI (by omega) (by omega), ?_⟩)))
  · have er : zrho (zsg n x) a = 0 := by unfold zrho; rw [e0, e]; rfl
    unfold zPS at hp
    rw [er] at hp
    have R0 := zRs_l (zRs_0 (v := 0) (r := 116 :: (zwd 9 ++ [35, 32, 35, 32, 64, 35])) rfl (by decide) e0) (by decide) (by omega) e
    refine k_wrd h (k := 9) (by omega) (by omega) (fun e2 => br_f (by decide) ?_) (fun e2 => br_t rfl ?_)
    · have R1 : zRs (zsg n x) 0 a 7 [35, 32, 35, 32, 64, 35] 0 (fun _ => 0) := zRs_w R0 (zwd_l 9 (by omega)) (by omega) e2
      rw [nI_1]
      refine k_mnum h (lim := 1) (a := a + 7) (by omega) (by omega) (by omega) (by omega) (fun d => br_f (by decide) ?_) (fun d => br_t rfl ?_)
      · have R2 := zRs_d R1 (by omega) d
        have M2 := zRw_s (v := zsg n x (a + 7) - 48) hM1
        rw [zrn_y d, show 10 * 0 + (zsg n x (a + 7) - 48) = zsg n x (a + 7) - 48 by omega]
        refine k_mis (w := 32) (a := a + 8) h (by omega) (by omega) (by omega) (fun e3 => br_f (by decide) ?_) (fun e3 => br_t rfl ?_)
        · have R3 := zRs_l R2 (by decide) (by omega) e3
          rw [show nI (5 * k) + 2 = nI (5 * k + 2) from nI_add _ 2]
          refine k_mnum h (lim := 1) (a := a + 9) (by omega) (by omega) (by omega) (by omega) (fun d2 => br_f (by decide) ?_) (fun d2 => br_t rfl ?_)
          · have R4 := zRs_d R3 (by omega) d2
            have M4 := zRw_s (v := zsg n x (a + 9) - 48) M2
            rw [zrn_y d2, show 10 * 0 + (zsg n x (a + 9) - 48) = zsg n x (a + 9) - 48 by omega]
            refine k_mis (w := 32) (a := a + 10) h (by omega) (by omega) (by omega) (fun e5 => br_f (by decide) ?_) (fun e5 => br_t rfl ?_)
            · have R5 := zRs_l R4 (by decide) (by omega) e5
              rw [show nI (5 * k) + 3 = nI (5 * k + 3) from nI_add _ 3]
              refine k_mcls h (a := a + 11) (by omega) (by omega) (fun d3 => br_f (by decide) ?_) (fun d3 _ => br_t rfl ?_)
              · have R6 := zRs_c R5 (by omega) d3
                have M6 := zRw_s (v := zsg n x (a + 11)) M4
                rw [show nI (5 * k) + 4 = nI (5 * k + 4) from nI_add _ 4]
                refine k_mnum h (lim := 1) (a := a + 12) (by omega) (by omega) (by omega) (by omega) (fun d4 => br_f (by decide) ?_) (fun d4 => br_t rfl ?_)
                · have R7 := zRs_e (zRs_d R6 (by omega) d4)
                  have M7 := zRw_s (v := zsg n x (a + 12) - 48) M6
                  rw [zrn_y d4, show 10 * 0 + (zsg n x (a + 12) - 48) = zsg n x (a + 12) - 48 by omega]
                  have q := hp.1 R7.1
                  rw [R7.2] at q
                  exact q _ M7
                · have R7 := zRs_n R6 (fun z => d4 (zok_d.mp z))
                  rw [R7.2]
                  exact hp.2 R7.1 _
              · have R6 := zRs_n R5 (fun z => d3 (zok_c.mp z))
                rw [R6.2]
                exact hp.2 R6.1 _
            · have R5 := zRs_n R4 (zok_no (by decide) e5)
              rw [R5.2]
              exact hp.2 R5.1 _
          · have R4 := zRs_n R3 (fun z => d2 (zok_d.mp z))
            rw [R4.2]
            exact hp.2 R4.1 _
        · have R3 := zRs_n R2 (zok_no (by decide) e3)
          rw [R3.2]
          exact hp.2 R3.1 _
      · have R2 := zRs_n R1 (fun z => d (zok_d.mp z))
        rw [R2.2]
        exact hp.2 R2.1 _
    · have R1 := zRs_wn R0 e2
      rw [show a + (1 + 1) = a + 2 by omega] at R1
      rw [show a + 1 + 1 = a + 2 by omega, R1.2]
      exact hp.2 R1.1 _
  · have er : zrho (zsg n x) a = 4 := by unfold zrho; rw [e0, if_pos rfl, if_neg e, e2]; rfl
    unfold zPS at hp
    rw [er] at hp
    rw [nI_clamp (by omega)]
    exact k_t3 h (v := 4) (i := 2) (by omega) hk ha (by omega) (zRs_l (zRs_0 (v := 4) (r := 97 :: (zwd 10 ++ [37])) rfl (by decide) e0) (by decide) (by omega) e2) (zRw_c hM1) hp.1 hp.2
  · have er : zrho (zsg n x) a = 6 := by unfold zrho; rw [e0, if_pos rfl, if_neg e, if_neg e2]
    unfold zPS at hp
    rw [er] at hp
    rw [nI_clamp (by omega)]
    exact k_t1 h (v := 6) (i := 1) (by omega) hk ha (by omega) (zRs_0 (v := 6) (r := zwd 11 ++ [35]) rfl (by decide) e0) (zRw_c hM1) hp.1 hp.2
/-- the first sign begins a command -/
def zfs (c : Nat) : Prop := c = 115 ∨ c = 119 ∨ c = 112 ∨ c = 111 ∨ c = 99 ∨ c = 108
theorem k_rR {n : Nat} {tp : Nat → Int32} {x : Nat → Nat} (h : zMX n tp x) {a k : Nat} (hk : k ≤ 9) (ha : a ≤ 60) (e0 : zfs (zsg n x a)) {M0 M : Nat → Int32} (hM : ∀ j : Nat, j < 5 * k → M j = M0 j) (hMc : M (5 * k) = nI (zsg n x a)) {post : Int32 → Int32 → (Nat → Int32) → Prop} (hp : zPS (zsg n x) a k M0 post) :
    wpX7_readsRest (nI (zsg n x a)) (nI (5 * k)) (nI n) (nI (a + 1)) tp M (fun r h2 c2 => narrow .boolean (.int r) = .int r ∧ post r h2 c2) := by
  have hp' : zPS (zsg n x) a k M0 (fun r h2 c2 => narrow .boolean (.int r) = .int r ∧ post r h2 c2) := ⟨fun z M' hR => ⟨m_nb1, hp.1 z M' hR⟩, fun z M' => ⟨m_nb0, hp.2 z M'⟩⟩
  unfold wpX7_readsRest
  have hc := zsg_ltM h a
  have q : ∀ w : Nat, w < 128 → zsg n x a ≠ w → ¬ nI (zsg n x a) = nI w := fun w hw e z => e ((nI_eq (by omega) (by omega)).mp z)
  have hM1 : ∀ c : Nat, zsg n x a = c → zRw k (nI c) 0 (fun _ => 0) M0 M := fun c e => ⟨by rw [hMc, e], fun q hq => absurd hq (Nat.not_lt_zero q), hM⟩
  by_cases c99 : zsg n x a = 99
  · have er : zrho (zsg n x) a = 3 := by unfold zrho; rw [c99]; rfl
    unfold zPS at hp'
    rw [er] at hp'
    refine br_t (by rw [c99]; rfl) ?_
    exact k_t1 (post := fun r h2 c2 => narrow .boolean (.int r) = .int r ∧ post r h2 c2) h (v := 3) (i := 1) (by omega) hk ha (by omega) (zRs_0 (v := 3) (r := zwd 16 ++ [35]) rfl (by decide) c99) (show zRw k (zlt 3) 0 (fun _ => 0) M0 M from hM1 99 c99) hp'.1 hp'.2
  refine br_f (q 99 (by omega) c99) ?_
  by_cases c111 : zsg n x a = 111
  · have er : zrho (zsg n x) a = 2 := by unfold zrho; rw [c111]; rfl
    unfold zPS at hp'
    rw [er] at hp'
    refine br_t (by rw [c111]; rfl) ?_
    have R0 := zRs_0 (v := 2) (r := zwd 15 ++ [35, 32, 37]) rfl (by decide) c111
    refine k_wrd h (k := 15) (by omega) (by omega) (fun e2 => br_f (by decide) ?_) (fun e2 => br_t rfl ?_)
    · have R1 : zRs (zsg n x) 2 a 6 [35, 32, 37] 0 (fun _ => 0) := zRs_w R0 (zwd_l 15 (by omega)) (by omega) e2
      rw [nI_1]
      refine k_mnum h (lim := 1) (a := a + 6) (by omega) (by omega) (by omega) (by omega) (fun d => br_f (by decide) ?_) (fun d => br_t rfl ?_)
      · have R2 := zRs_d R1 (by omega) d
        have M2 := zRw_s (v := zsg n x (a + 6) - 48) (hM1 111 c111)
        rw [zrn_y d, show 10 * 0 + (zsg n x (a + 6) - 48) = zsg n x (a + 6) - 48 by omega]
        refine k_mis (w := 32) (a := a + 7) h (by omega) (by omega) (by omega) (fun e3 => br_f (by decide) ?_) (fun e3 => br_t rfl ?_)
        · have R3 := zRs_l R2 (by decide) (by omega) e3
          rw [show nI (5 * k) + 2 = nI (5 * k + 2) from nI_add _ 2]
          refine k_mnum h (lim := 3) (a := a + 8) (by omega) (by omega) (by omega) (by omega) (fun d2 => br_f (by decide) ?_) (fun d2 => br_t rfl ?_)
          · have R4 := zRs_m R3 (by omega) d2
            have q := hp'.1 R4.1
            rw [R4.2] at q
            exact q _ (zRw_s M2)
          · have R4 := zRs_n R3 (fun z => d2 (zok_m.mp z))
            rw [R4.2]
            exact hp'.2 R4.1 _
        · have R3 := zRs_n R2 (zok_no (by decide) e3)
          rw [R3.2]
          exact hp'.2 R3.1 _
      · have R2 := zRs_n R1 (fun z => d (zok_d.mp z))
        rw [R2.2]
        exact hp'.2 R2.1 _
    · have R1 := zRs_wn R0 e2
      rw [R1.2]
      exact hp'.2 R1.1 _
  refine br_f (q 111 (by omega) c111) ?_
  by_cases c112 : zsg n x a = 112
  · have er : zrho (zsg n x) a = 1 := by unfold zrho; rw [c112]; rfl
    unfold zPS at hp'
    rw [er] at hp'
    refine br_t (by rw [c112]; rfl) ?_
    exact k_t1 (post := fun r h2 c2 => narrow .boolean (.int r) = .int r ∧ post r h2 c2) h (v := 1) (i := 1) (by omega) hk ha (by omega) (zRs_0 (v := 1) (r := zwd 14 ++ [35]) rfl (by decide) c112) (show zRw k (zlt 1) 0 (fun _ => 0) M0 M from hM1 112 c112) hp'.1 hp'.2
  refine br_f (q 112 (by omega) c112) ?_
  by_cases c115 : zsg n x a = 115
  · refine br_t (by rw [c115]; rfl) (k_rS h hk ha c115 hM (by rw [hMc, c115]; rfl) ?_)
    exact ⟨fun z M' hR => ⟨m_nb1, hp'.1 z M' hR⟩, fun z M' => ⟨m_nb0, hp'.2 z M'⟩⟩
  refine br_f (q 115 (by omega) c115) ?_
  by_cases c119 : zsg n x a = 119
  · refine br_t (by rw [c119]; rfl) (k_rW h hk ha c119 hM (by rw [hMc, c119]; rfl) ?_)
    · exact ⟨fun z M' hR => ⟨m_nb1, hp'.1 z M' hR⟩, fun z M' => ⟨m_nb0, hp'.2 z M'⟩⟩
  refine br_f (q 119 (by omega) c119) ?_
  have c108 : zsg n x a = 108 := by
    rcases e0 with e | e | e | e | e | e <;> omega
  have er : zrho (zsg n x) a = 5 := by unfold zrho; rw [c108]; rfl
  unfold zPS at hp'
  rw [er] at hp'
  exact k_t3 (post := fun r h2 c2 => narrow .boolean (.int r) = .int r ∧ post r h2 c2) h (v := 5) (i := 1) (by omega) hk ha (by omega) (zRs_0 (v := 5) (r := zwd 17 ++ [37]) rfl (by decide) c108) (show zRw k (zlt 5) 0 (fun _ => 0) M0 M from hM1 108 c108) hp'.1 hp'.2
/-- where a reader stops that fails -/
def zfp (sg : Nat → Nat) (a : Nat) : Nat := a + (if zrho sg a < 9 then zft sg (zfm (zrho sg a)) a else 0)
/-- a command stands at a -/
def zgd (sg : Nat → Nat) (a : Nat) : Prop := zrho sg a < 9 ∧ zmt sg a (zrho sg a)
theorem zrho_f {sg : Nat → Nat} {a : Nat} : zrho sg a < 9 ↔ zfs (sg a) := by
  unfold zrho zfs
  constructor
  · intro e
    repeat' split at e
    all_goals omega
  · intro e
    repeat' split
    all_goals omega
theorem k_mcmd {n : Nat} {tp : Nat → Int32} {x : Nat → Nat} (h : zMX n tp x) {a k : Nat} (hk : k ≤ 9) (ha : a ≤ 60) {M : Nat → Int32} {post : Int32 → Int32 → Int32 → (Nat → Int32) → Prop}
    (h1 : zgd (zsg n x) a → ∀ M', zRw k (zlt (zrho (zsg n x) a)) (zcv (zsg n x) a (zrho (zsg n x) a)).1 (zcv (zsg n x) a (zrho (zsg n x) a)).2.1 M M' → post 1 (nI (zcv (zsg n x) a (zrho (zsg n x) a)).2.2) (nI (k + 1)) M')
    (h0 : ¬ zgd (zsg n x) a → ∀ m' M', post 0 (nI (zfp (zsg n x) a)) m' M') : wpX7_readsCommand (nI n) (nI a) (nI k) tp M post := by
  unfold wpX7_readsCommand
  have e5 : (5 : Int32) * nI k = nI (5 * k) := pk_mul 5 k
  rw [e5, nI_clamp (by omega), nI_1, nI_1]
  have no : ¬ zfs (zsg n x a) → post 0 (nI a) (nI k) M := by
    intro e
    have e9 : ¬ zrho (zsg n x) a < 9 := fun z => e (zrho_f.mp z)
    have q := h0 (fun z => e9 z.1) (nI k) M
    unfold zfp at q
    rw [if_neg e9] at q
    exact q
  refine k_msg h (by omega) (fun e => ?_) (fun e => ?_)
  · have hx := h.2 a e
    have ez : zsg n x a = x a := if_pos e
    have q : ∀ w : Nat, w < 128 → x a ≠ w → ¬ nI (x a) = nI w := fun w hw e z => e ((nI_eq (by omega) (by omega)).mp z)
    have yes : zfs (zsg n x a) → (vp_in (nI (5 * k)) 155 ∧ wpX7_readsRest (nI (x a)) (nI (5 * k)) (nI n) (nI (a + 1)) tp (upd M (5 * k) (nI (x a))) (fun r4 m_here_v4 m_commands_v4 => (narrow .boolean (.int r4) = .int r4 ∧ post r4 m_here_v4 (nI (k + 1)) m_commands_v4))) := by
      intro e3
      refine ⟨vp_in_nI (by omega) (by omega), ?_⟩
      rw [← ez]
      have hr : zrho (zsg n x) a < 9 := zrho_f.mpr e3
      refine k_rR h hk ha e3 (M0 := M) (fun j hj => pk_un (by omega)) (pk_us ..) (post := fun r h2 c2 => post r h2 (nI (k + 1)) c2) ⟨fun z M' hR => h1 ⟨hr, z⟩ M' hR, fun z M' => ?_⟩
      have q := h0 (fun z2 => z z2.2) (nI (k + 1)) M'
      unfold zfp at q
      rw [if_pos hr] at q
      exact q
    unfold wpX7_isFirst
    by_cases c115 : x a = 115
    · exact br_t (by rw [c115]; rfl) (br_n (by decide) (yes (by unfold zfs; omega)))
    refine br_f (q 115 (by omega) c115) ?_
    by_cases c119 : x a = 119
    · exact br_t (by rw [c119]; rfl) (br_n (by decide) (yes (by unfold zfs; omega)))
    refine br_f (q 119 (by omega) c119) ?_
    by_cases c112 : x a = 112
    · exact br_t (by rw [c112]; rfl) (br_n (by decide) (yes (by unfold zfs; omega)))
    refine br_f (q 112 (by omega) c112) ?_
    by_cases c111 : x a = 111
    · exact br_t (by rw [c111]; rfl) (br_n (by decide) (yes (by unfold zfs; omega)))
    refine br_f (q 111 (by omega) c111) ?_
    by_cases c99 : x a = 99
    · exact br_t (by rw [c99]; rfl) (br_n (by decide) (yes (by unfold zfs; omega)))
    refine br_f (q 99 (by omega) c99) ?_
    by_cases c108 : x a = 108
    · exact br_m (by rw [c108]; rfl) (br_n (by decide) (yes (by unfold zfs; omega)))
    refine br_n (q 108 (by omega) c108) (br_m rfl (no (by unfold zfs; omega)))
  · have ez : zsg n x a = 0 := if_neg e
    have q := no (by rw [ez]; unfold zfs; omega)
    unfold wpX7_isFirst
    exact br_f (by decide) (br_f (by decide) (br_f (by decide) (br_f (by decide) (br_f (by decide) (br_n (by decide) (br_m rfl q))))))
