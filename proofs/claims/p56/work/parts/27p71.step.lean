/-! scripts: one command obeyed -/
def zSt (A : Nat → Nat) (u : TT) (x : zX) (nx : Int32) (cls : (Int32 → TT → zX → (Nat → Int32) → Int32 → Int32 → Prop) → Prop) (mod : (Nat → Int32) → zY → (Int32 → Int32 → (Nat → Int32) → zY → Prop) → Prop) : Prop :=
  (∃ c k : Int32, c < 0 ∧ ¬ k = 0 ∧ (∀ post : Int32 → TT → zX → (Nat → Int32) → Int32 → Int32 → Prop, (∀ cv vb, post c u x cv nx vb) → cls post) ∧ ∀ (m : Nat → Int32) (y : zY), zM A m → ∀ post : Int32 → Int32 → (Nat → Int32) → zY → Prop, post 0 k m y → mod m y post) ∨
  ∃ (B : Nat → Nat) (r : Nat), r < 2 ^ 30 ∧ zMo A B r ∧ B 0 ≤ A 0 + 600 ∧ (∀ post : Int32 → TT → zX → (Nat → Int32) → Int32 → Int32 → Prop, (∀ u' x' cv vb, zTT B u' → post (nI r) u' x' cv nx vb) → cls post) ∧ ∀ (m : Nat → Int32) (y : zY), zM A m → ∀ post : Int32 → Int32 → (Nat → Int32) → zY → Prop, (∀ m' y', zM B m' → post (nI r) 0 m' y') → mod m y post
theorem zSt_of {A : Nat → Nat} {P : List (Int32 × Int32)} {d : Nat} {E : Prop} {E' : (Nat → Nat) → Prop} {F : TT → Prop} {u : TT} {x : zX} {nx : Int32} {cls0 : (Int32 → TT → zX → Prop) → Prop} {cls : (Int32 → TT → zX → (Nat → Int32) → Int32 → Int32 → Prop) → Prop} {mod0 mod : (Nat → Int32) → zY → (Int32 → Int32 → (Nat → Int32) → zY → Prop) → Prop}
    (h : zAg A P d E E' F u x cls0 mod0) (hP : ∀ c k, (c, k) ∈ P → c < 0 ∧ ¬ k = 0) (hd : d ≤ 600)
    (hc : ∀ post : Int32 → TT → zX → (Nat → Int32) → Int32 → Int32 → Prop, (∀ cv vb, cls0 (fun r u' x' => post r u' x' cv nx vb)) → cls post) (hm : ∀ m y post, mod0 m y post → mod m y post) : zSt A u x nx cls mod := by
  rcases h with ⟨c, k, hck, -, h1, h2⟩ | ⟨B, r, hr, hg, hB, h1, h2⟩
  · exact Or.inl ⟨c, k, (hP c k hck).1, (hP c k hck).2, fun post hp => hc post (fun cv vb => h1 _ (hp cv vb)), fun m y hM post hp => hm m y post (h2 m y hM post hp)⟩
  · exact Or.inr ⟨B, r, hr, hg.1, by omega, fun post hp => hc post (fun cv vb => h1 _ (fun u' x' hT _ => hp u' x' cv vb hT)), fun m y hM post hp => hm m y post (h2 m y hM post hp)⟩
theorem k_val {i v : Nat} (hi : i < 4) {cv : Nat → Int32} (e : cv i = nI v) {post : Int32 → Prop} (h : post (nI v)) : wpX3_value (nI i) cv post := by
  unfold wpX3_value
  refine br_f (nI_pos (by omega)) (br_f (nI_ge (b := 4) (by omega) (by omega)) ⟨vp_in_nI (by omega) (by omega), ?_⟩)
  rw [nI_clamp (by omega), e]
  exact h
theorem z_ch3 {k : Nat} (h : k < 65536) : (((nI k).toUInt32 % 65536).toInt32) = nI k := z_char h
/-- the row of the k-th command -/
def zGd (sg : Nat → Nat) (k : Nat) (M : Nat → Int32) : Prop := M (5 * k) = zlt (zrho sg (zpt sg k)) ∧ ∀ p : Nat, p < (zvl sg (zpt sg k)).1 → M (5 * k + 1 + p) = nI ((zvl sg (zpt sg k)).2.1 p)
theorem k_step {A : Nat → Nat} {t_time : Int32} {t_store : Int32} {t_rate : Int32} {t_force : Int32} {t_cleared : Int32} {t_ploughed : Int32} {t_failed : Int32} {t_complained : Int32} {s_lower : Nat → Int32} {s_higher : Nat → Int32} {s_kind : Nat → Int32} {s_size : Nat → Int32} {s_snow : Nat → Int32} {s_saltEnd : Nat → Int32} {s_complained : Nat → Int32} {s_clearings : Nat → Int32} {s_count : Int32} {q_place : Nat → Int32} {q_target : Nat → Int32} {q_minutesLeft : Nat → Int32} {q_waiting : Nat → Int32} {q_orders : Nat → Int32} {q_count : Int32} (hT : zTc A t_time t_store t_rate t_force t_cleared t_ploughed t_failed t_complained s_lower s_higher s_kind s_size s_snow s_saltEnd s_complained s_clearings s_count q_place q_target q_minutesLeft q_waiting q_orders q_count) (h29 : A 0 + 600 < 2 ^ 29) {n cap : Nat} {b : Nat → Int32} {x : Nat → Nat} (hx : zSX n cap b x) {k : Nat} (hk : k ≤ 8) (ha : (zpt (zsg n x) k) ≤ n) (hg : zgd (zsg n x) (zpt (zsg n x) k)) (w : zX) (cv : Nat → Int32) (verb : Int32) :
    zSt A (t_time, t_store, t_rate, t_force, t_cleared, t_ploughed, t_failed, t_complained, s_lower, s_higher, s_kind, s_size, s_snow, s_saltEnd, s_complained, s_clearings, s_count, q_place, q_target, q_minutesLeft, q_waiting, q_orders, q_count) w (nI (zpt (zsg n x) (k + 1))) (fun post => wpX6_obeyNext w.1 w.2 t_time t_store t_rate t_force t_cleared t_ploughed t_failed t_complained s_lower s_higher s_kind s_size s_snow s_saltEnd s_complained s_clearings s_count q_place q_target q_minutesLeft q_waiting q_orders q_count cv (nI (zpt (zsg n x) k)) verb (nI n) cap b (fun r w_reach w_settled t_time2 t_store2 t_rate2 t_force2 t_cleared2 t_ploughed2 t_failed2 t_complained2 s_lower2 s_higher2 s_kind2 s_size2 s_snow2 s_saltEnd2 s_complained2 s_clearings2 s_count2 q_place2 q_target2 q_minutesLeft2 q_waiting2 q_orders2 q_count2 cv2 at2 vb2 => post r (t_time2, t_store2, t_rate2, t_force2, t_cleared2, t_ploughed2, t_failed2, t_complained2, s_lower2, s_higher2, s_kind2, s_size2, s_snow2, s_saltEnd2, s_complained2, s_clearings2, s_count2, q_place2, q_target2, q_minutesLeft2, q_waiting2, q_orders2, q_count2) (w_reach, w_settled) cv2 at2 vb2)) (fun m y post => ∀ M, zGd (zsg n x) k M → wpX7_does (nI (5 * k)) 0 y.1 m y.2.1 y.2.2 M (fun r thr a m f d => post r thr m (a, f, d))) := by
  have hs := zsg_lt hx
  have h60 := hx.1
  have f := zvl_f hs ha hg
  have f3 := f.2.2.1
  have f4 := f.2.2.2
  have hr := hg.1
  have en : nI (zvl (zsg n x) (zpt (zsg n x) k)).2.2 + 1 = nI (zpt (zsg n x) (k + 1)) := nI_1 _
  have e1 : nI (5 * k) + 1 = nI (5 * k + 1) := nI_1 _
  have e2 : nI (5 * k) + 2 = nI (5 * k + 2) := nI_add _ 2
  have e3 : nI (5 * k) + 3 = nI (5 * k + 3) := nI_add _ 3
  have e4 : nI (5 * k) + 4 = nI (5 * k + 4) := nI_add _ 4
  have c0 : (nI (5 * k)).toNatClampNeg = 5 * k := nI_clamp (by omega)
  have c1 : (nI (5 * k + 1)).toNatClampNeg = 5 * k + 1 := nI_clamp (by omega)
  have c2 : (nI (5 * k + 2)).toNatClampNeg = 5 * k + 2 := nI_clamp (by omega)
  have c3 : (nI (5 * k + 3)).toNatClampNeg = 5 * k + 3 := nI_clamp (by omega)
  have c4 : (nI (5 * k + 4)).toNatClampNeg = 5 * k + 4 := nI_clamp (by omega)
  have cases9 : ∀ v : Nat, v < 9 → v = 0 ∨ v = 1 ∨ v = 2 ∨ v = 3 ∨ v = 4 ∨ v = 5 ∨ v = 6 ∨ v = 7 ∨ v = 8 := fun v hv => by omega
  rcases cases9 _ hr with e | e | e | e | e | e | e | e | e
  · rw [e] at f3
    have ec := z_ch3 (k := (zvl (zsg n x) (zpt (zsg n x) k)).2.1 2) (by have := f4 2; omega)
    refine zSt_of (o_street hT (nI ((zvl (zsg n x) (zpt (zsg n x) k)).2.1 0)) (nI ((zvl (zsg n x) (zpt (zsg n x) k)).2.1 1)) (nI ((zvl (zsg n x) (zpt (zsg n x) k)).2.1 2)) (nI ((zvl (zsg n x) (zpt (zsg n x) k)).2.1 3)) 0 w) ?_ (by omega) (fun post hp => ?_) (fun m y post hp => ?_)
    · intro c k hck
      simp only [List.mem_cons, List.not_mem_nil, or_false, Prod.mk.injEq] at hck
      rcases hck with ⟨rfl, rfl⟩ | ⟨rfl, rfl⟩ | ⟨rfl, rfl⟩ <;> exact ⟨by decide, by decide⟩
    · unfold wpX6_obeyNext wpX3_readNext
      refine k_ccmd hx (by omega) (fun g cv2 hcv => ?_) (fun z => absurd hg z)
      have hq := hp cv2 (nI 0)
      rw [e]
      dsimp only
      rw [en]
      refine br_t rfl ?_
      refine k_val (i := 0) (by omega) (hcv 0 (by rw [f3]; decide)) ?_
      refine k_val (i := 1) (by omega) (hcv 1 (by rw [f3]; decide)) ?_
      refine k_val (i := 2) (by omega) (hcv 2 (by rw [f3]; decide)) ?_
      refine k_val (i := 3) (by omega) (hcv 3 (by rw [f3]; decide)) ?_
      rw [ec]
      exact hq
    · intro M hMM
      have hM0 := hMM.1
      rw [e] at hM0
      have M1 : M (5 * k + 1) = (nI ((zvl (zsg n x) (zpt (zsg n x) k)).2.1 0)) := hMM.2 0 (by rw [f3]; decide)
      have M2 : M (5 * k + 2) = (nI ((zvl (zsg n x) (zpt (zsg n x) k)).2.1 1)) := hMM.2 1 (by rw [f3]; decide)
      have M3 : M (5 * k + 3) = (nI ((zvl (zsg n x) (zpt (zsg n x) k)).2.1 2)) := hMM.2 2 (by rw [f3]; decide)
      have M4 : M (5 * k + 4) = (nI ((zvl (zsg n x) (zpt (zsg n x) k)).2.1 3)) := hMM.2 3 (by rw [f3]; decide)
      unfold wpX7_does
      rw [e1, e2, e3, e4, c0, c1, c2, c3, c4, hM0, M1, M2, M3, M4]
      refine ⟨vp_in_nI (by omega) (by omega), vp_in_nI (by omega) (by omega), vp_in_nI (by omega) (by omega), ?_⟩
      refine br_f (by decide) ?_
      refine br_f (by decide) ?_
      refine br_f (by decide) ?_
      refine br_f (by decide) ?_
      refine br_f (by decide) ?_
      refine br_t rfl ?_
      refine ⟨vp_in_nI (by omega) (by omega), vp_in_nI (by omega) (by omega), ?_⟩
      exact hp
  · rw [e] at f3
    refine zSt_of (o_plough hT (nI ((zvl (zsg n x) (zpt (zsg n x) k)).2.1 0)) 0 w) ?_ (by omega) (fun post hp => ?_) (fun m y post hp => ?_)
    · intro c k hck
      simp only [List.mem_cons, List.not_mem_nil, or_false, Prod.mk.injEq] at hck
      rcases hck with ⟨rfl, rfl⟩ | ⟨rfl, rfl⟩ <;> exact ⟨by decide, by decide⟩
    · unfold wpX6_obeyNext wpX3_readNext
      refine k_ccmd hx (by omega) (fun g cv2 hcv => ?_) (fun z => absurd hg z)
      have hq := hp cv2 (nI 1)
      rw [e]
      dsimp only
      rw [en]
      refine br_f (by decide) ?_
      refine br_t rfl ?_
      refine k_val (i := 0) (by omega) (hcv 0 (by rw [f3]; decide)) ?_
      exact hq
    · intro M hMM
      have hM0 := hMM.1
      rw [e] at hM0
      have M1 : M (5 * k + 1) = (nI ((zvl (zsg n x) (zpt (zsg n x) k)).2.1 0)) := hMM.2 0 (by rw [f3]; decide)
      unfold wpX7_does
      rw [e1, e2, e3, e4, c0, c1, c2, c3, c4, hM0, M1]
      refine ⟨vp_in_nI (by omega) (by omega), vp_in_nI (by omega) (by omega), vp_in_nI (by omega) (by omega), ?_⟩
      refine br_f (by decide) ?_
      refine br_f (by decide) ?_
      refine br_f (by decide) ?_
      refine br_f (by decide) ?_
      refine br_t rfl ?_
      exact hp
  · rw [e] at f3
    refine zSt_of (o_order hT (nI ((zvl (zsg n x) (zpt (zsg n x) k)).2.1 0)) (nI ((zvl (zsg n x) (zpt (zsg n x) k)).2.1 1)) 0 w) ?_ (by omega) (fun post hp => ?_) (fun m y post hp => ?_)
    · intro c k hck
      simp only [List.mem_cons, List.not_mem_nil, or_false, Prod.mk.injEq] at hck
      rcases hck with ⟨rfl, rfl⟩ | ⟨rfl, rfl⟩ <;> exact ⟨by decide, by decide⟩
    · unfold wpX6_obeyNext wpX3_readNext
      refine k_ccmd hx (by omega) (fun g cv2 hcv => ?_) (fun z => absurd hg z)
      have hq := hp cv2 (nI 2)
      rw [e]
      dsimp only
      rw [en]
      refine br_f (by decide) ?_
      refine br_f (by decide) ?_
      refine br_t rfl ?_
      refine k_val (i := 0) (by omega) (hcv 0 (by rw [f3]; decide)) ?_
      refine k_val (i := 1) (by omega) (hcv 1 (by rw [f3]; decide)) ?_
      exact hq
    · intro M hMM
      have hM0 := hMM.1
      rw [e] at hM0
      have M1 : M (5 * k + 1) = (nI ((zvl (zsg n x) (zpt (zsg n x) k)).2.1 0)) := hMM.2 0 (by rw [f3]; decide)
      have M2 : M (5 * k + 2) = (nI ((zvl (zsg n x) (zpt (zsg n x) k)).2.1 1)) := hMM.2 1 (by rw [f3]; decide)
      unfold wpX7_does
      rw [e1, e2, e3, e4, c0, c1, c2, c3, c4, hM0, M1, M2]
      refine ⟨vp_in_nI (by omega) (by omega), vp_in_nI (by omega) (by omega), vp_in_nI (by omega) (by omega), ?_⟩
      refine br_f (by decide) ?_
      refine br_f (by decide) ?_
      refine br_f (by decide) ?_
      refine br_t rfl ?_
      exact hp
  · rw [e] at f3
    refine zSt_of (o_cancel hT (nI ((zvl (zsg n x) (zpt (zsg n x) k)).2.1 0)) 0 w) ?_ (by omega) (fun post hp => ?_) (fun m y post hp => ?_)
    · intro c k hck
      simp only [List.mem_cons, List.not_mem_nil, or_false, Prod.mk.injEq] at hck
      rcases hck with ⟨rfl, rfl⟩ | ⟨rfl, rfl⟩ <;> exact ⟨by decide, by decide⟩
    · unfold wpX6_obeyNext wpX3_readNext
      refine k_ccmd hx (by omega) (fun g cv2 hcv => ?_) (fun z => absurd hg z)
      have hq := hp cv2 (nI 3)
      rw [e]
      dsimp only
      rw [en]
      refine br_f (by decide) ?_
      refine br_f (by decide) ?_
      refine br_f (by decide) ?_
      refine br_t rfl ?_
      refine k_val (i := 0) (by omega) (hcv 0 (by rw [f3]; decide)) ?_
      exact hq
    · intro M hMM
      have hM0 := hMM.1
      rw [e] at hM0
      have M1 : M (5 * k + 1) = (nI ((zvl (zsg n x) (zpt (zsg n x) k)).2.1 0)) := hMM.2 0 (by rw [f3]; decide)
      unfold wpX7_does
      rw [e1, e2, e3, e4, c0, c1, c2, c3, c4, hM0, M1]
      refine ⟨vp_in_nI (by omega) (by omega), vp_in_nI (by omega) (by omega), vp_in_nI (by omega) (by omega), ?_⟩
      refine br_f (by decide) ?_
      refine br_t rfl ?_
      exact hp
  · rw [e] at f3
    refine zSt_of (o_salt hT (by omega) (nI ((zvl (zsg n x) (zpt (zsg n x) k)).2.1 0)) 0 w) ?_ (by omega) (fun post hp => ?_) (fun m y post hp => ?_)
    · intro c k hck
      simp only [List.mem_cons, List.not_mem_nil, or_false, Prod.mk.injEq] at hck
      rcases hck with ⟨rfl, rfl⟩ | ⟨rfl, rfl⟩ | ⟨rfl, rfl⟩ <;> exact ⟨by decide, by decide⟩
    · unfold wpX6_obeyNext wpX3_readNext
      refine k_ccmd hx (by omega) (fun g cv2 hcv => ?_) (fun z => absurd hg z)
      have hq := hp cv2 (nI 4)
      rw [e]
      dsimp only
      rw [en]
      refine br_f (by decide) ?_
      refine br_f (by decide) ?_
      refine br_f (by decide) ?_
      refine br_f (by decide) ?_
      refine br_t rfl ?_
      refine k_val (i := 0) (by omega) (hcv 0 (by rw [f3]; decide)) ?_
      exact hq
    · intro M hMM
      have hM0 := hMM.1
      rw [e] at hM0
      have M1 : M (5 * k + 1) = (nI ((zvl (zsg n x) (zpt (zsg n x) k)).2.1 0)) := hMM.2 0 (by rw [f3]; decide)
      unfold wpX7_does
      rw [e1, e2, e3, e4, c0, c1, c2, c3, c4, hM0, M1]
      refine ⟨vp_in_nI (by omega) (by omega), vp_in_nI (by omega) (by omega), vp_in_nI (by omega) (by omega), ?_⟩
      refine br_t rfl ?_
      exact hp
  · rw [e] at f3
    refine zSt_of (o_load hT (nI ((zvl (zsg n x) (zpt (zsg n x) k)).2.1 0)) 0 w) ?_ (by omega) (fun post hp => ?_) (fun m y post hp => ?_)
    · intro c k hck
      simp only [List.mem_cons, List.not_mem_nil, or_false, Prod.mk.injEq] at hck
      rcases hck with ⟨rfl, rfl⟩ | ⟨rfl, rfl⟩ <;> exact ⟨by decide, by decide⟩
    · unfold wpX6_obeyNext wpX3_readNext
      refine k_ccmd hx (by omega) (fun g cv2 hcv => ?_) (fun z => absurd hg z)
      have hq := hp cv2 (nI 5)
      rw [e]
      dsimp only
      rw [en]
      refine br_f (by decide) ?_
      refine br_f (by decide) ?_
      refine br_f (by decide) ?_
      refine br_f (by decide) ?_
      refine br_f (by decide) ?_
      refine br_t rfl ?_
      refine k_val (i := 0) (by omega) (hcv 0 (by rw [f3]; decide)) ?_
      exact hq
    · intro M hMM
      have hM0 := hMM.1
      rw [e] at hM0
      have M1 : M (5 * k + 1) = (nI ((zvl (zsg n x) (zpt (zsg n x) k)).2.1 0)) := hMM.2 0 (by rw [f3]; decide)
      unfold wpX7_does
      rw [e1, e2, e3, e4, c0, c1, c2, c3, c4, hM0, M1]
      refine ⟨vp_in_nI (by omega) (by omega), vp_in_nI (by omega) (by omega), vp_in_nI (by omega) (by omega), ?_⟩
      refine br_f (by decide) ?_
      refine br_f (by decide) ?_
      refine br_f (by decide) ?_
      refine br_f (by decide) ?_
      refine br_f (by decide) ?_
      refine br_f (by decide) ?_
      refine br_f (by decide) ?_
      refine br_f (by decide) ?_
      exact hp
  · rw [e] at f3
    refine zSt_of (o_rate hT (nI ((zvl (zsg n x) (zpt (zsg n x) k)).2.1 0)) 0 w) ?_ (by omega) (fun post hp => ?_) (fun m y post hp => ?_)
    · intro c k hck
      simp only [List.mem_cons, List.not_mem_nil, or_false, Prod.mk.injEq] at hck
      rcases hck with ⟨rfl, rfl⟩ <;> exact ⟨by decide, by decide⟩
    · unfold wpX6_obeyNext wpX3_readNext
      refine k_ccmd hx (by omega) (fun g cv2 hcv => ?_) (fun z => absurd hg z)
      have hq := hp cv2 (nI 6)
      rw [e]
      dsimp only
      rw [en]
      refine br_f (by decide) ?_
      refine br_f (by decide) ?_
      refine br_f (by decide) ?_
      refine br_f (by decide) ?_
      refine br_f (by decide) ?_
      refine br_f (by decide) ?_
      refine br_t rfl ?_
      refine k_val (i := 0) (by omega) (hcv 0 (by rw [f3]; decide)) ?_
      exact hq
    · intro M hMM
      have hM0 := hMM.1
      rw [e] at hM0
      have M1 : M (5 * k + 1) = (nI ((zvl (zsg n x) (zpt (zsg n x) k)).2.1 0)) := hMM.2 0 (by rw [f3]; decide)
      unfold wpX7_does
      rw [e1, e2, e3, e4, c0, c1, c2, c3, c4, hM0, M1]
      refine ⟨vp_in_nI (by omega) (by omega), vp_in_nI (by omega) (by omega), vp_in_nI (by omega) (by omega), ?_⟩
      refine br_f (by decide) ?_
      refine br_f (by decide) ?_
      refine br_t rfl ?_
      exact hp
  · rw [e] at f3
    refine zSt_of (o_wind hT (nI ((zvl (zsg n x) (zpt (zsg n x) k)).2.1 0)) 0 w) ?_ (by omega) (fun post hp => ?_) (fun m y post hp => ?_)
    · intro c k hck
      simp only [List.mem_cons, List.not_mem_nil, or_false, Prod.mk.injEq] at hck
      rcases hck with ⟨rfl, rfl⟩ <;> exact ⟨by decide, by decide⟩
    · unfold wpX6_obeyNext wpX3_readNext
      refine k_ccmd hx (by omega) (fun g cv2 hcv => ?_) (fun z => absurd hg z)
      have hq := hp cv2 (nI 7)
      rw [e]
      dsimp only
      rw [en]
      refine br_f (by decide) ?_
      refine br_f (by decide) ?_
      refine br_f (by decide) ?_
      refine br_f (by decide) ?_
      refine br_f (by decide) ?_
      refine br_f (by decide) ?_
      refine br_f (by decide) ?_
      refine br_t rfl ?_
      refine k_val (i := 0) (by omega) (hcv 0 (by rw [f3]; decide)) ?_
      exact hq
    · intro M hMM
      have hM0 := hMM.1
      rw [e] at hM0
      have M1 : M (5 * k + 1) = (nI ((zvl (zsg n x) (zpt (zsg n x) k)).2.1 0)) := hMM.2 0 (by rw [f3]; decide)
      unfold wpX7_does
      rw [e1, e2, e3, e4, c0, c1, c2, c3, c4, hM0, M1]
      refine ⟨vp_in_nI (by omega) (by omega), vp_in_nI (by omega) (by omega), vp_in_nI (by omega) (by omega), ?_⟩
      refine br_f (by decide) ?_
      refine br_f (by decide) ?_
      refine br_f (by decide) ?_
      refine br_f (by decide) ?_
      refine br_f (by decide) ?_
      refine br_f (by decide) ?_
      refine br_f (by decide) ?_
      refine br_t rfl ?_
      exact hp
  · rw [e] at f3
    refine zSt_of (o_wait hT (by omega) (nI ((zvl (zsg n x) (zpt (zsg n x) k)).2.1 0)) 0 w) ?_ (by omega) (fun post hp => ?_) (fun m y post hp => ?_)
    · intro c k hck
      simp only [List.mem_cons, List.not_mem_nil, or_false, Prod.mk.injEq] at hck
      rcases hck with ⟨rfl, rfl⟩ <;> exact ⟨by decide, by decide⟩
    · unfold wpX6_obeyNext wpX3_readNext
      refine k_ccmd hx (by omega) (fun g cv2 hcv => ?_) (fun z => absurd hg z)
      have hq := hp cv2 (nI 8)
      rw [e]
      dsimp only
      rw [en]
      refine br_f (by decide) ?_
      refine br_f (by decide) ?_
      refine br_f (by decide) ?_
      refine br_f (by decide) ?_
      refine br_f (by decide) ?_
      refine br_f (by decide) ?_
      refine br_f (by decide) ?_
      refine br_f (by decide) ?_
      refine k_val (i := 0) (by omega) (hcv 0 (by rw [f3]; decide)) ?_
      exact hq
    · intro M hMM
      have hM0 := hMM.1
      rw [e] at hM0
      have M1 : M (5 * k + 1) = (nI ((zvl (zsg n x) (zpt (zsg n x) k)).2.1 0)) := hMM.2 0 (by rw [f3]; decide)
      unfold wpX7_does
      rw [e1, e2, e3, e4, c0, c1, c2, c3, c4, hM0, M1]
      refine ⟨vp_in_nI (by omega) (by omega), vp_in_nI (by omega) (by omega), vp_in_nI (by omega) (by omega), ?_⟩
      refine br_f (by decide) ?_
      refine br_f (by decide) ?_
      refine br_f (by decide) ?_
      refine br_f (by decide) ?_
      refine br_f (by decide) ?_
      refine br_f (by decide) ?_
      refine br_t rfl ?_
      exact hp

