/-! output -/
/-- a row holds a text of signs -/
def zR (f : Nat → Int32) (n : Nat) (x : Nat → Nat) : Prop := zL f n x ∧ ∀ i : Nat, i < n → x i < 128
theorem zR_0 {f : Nat → Int32} {x : Nat → Nat} : zR f 0 x := ⟨fun i hi => absurd hi (Nat.not_lt_zero i), fun i hi => absurd hi (Nat.not_lt_zero i)⟩
theorem zR_c {f : Nat → Int32} {n c : Nat} {x : Nat → Nat} (h : zR f n x) (hc : c < 128) : zR (upd f n (nI c)) (n + 1) (zu x n c) := by
  refine ⟨zL_ins h.1 (fun i hi => zu_n (by omega)) zu_s, fun i hi => ?_⟩
  by_cases e : i = n
  · rw [e, zu_s]; exact hc
  · rw [zu_n e]; exact h.2 i (by omega)
/-- from the back: two signs -/
theorem zR_b2 {f : Nat → Int32} {n c d : Nat} {x : Nat → Nat} (h : zR f n x) (hc : c < 128) (hd : d < 128) : zR (upd (upd f (n + 1) (nI d)) n (nI c)) (n + 2) (zu (zu x n c) (n + 1) d) := by
  refine ⟨fun i hi => ?_, fun i hi => ?_⟩
  · by_cases e : i = n
    · rw [e, pk_us, zu_n (by omega), zu_s]
    · rw [pk_un e]
      by_cases e2 : i = n + 1
      · rw [e2, pk_us, zu_s]
      · rw [pk_un e2, zu_n e2, zu_n e]
        exact h.1 i (by omega)
  · by_cases e2 : i = n + 1
    · rw [e2, zu_s]; exact hd
    · rw [zu_n e2]
      by_cases e : i = n
      · rw [e, zu_s]; exact hc
      · rw [zu_n e]; exact h.2 i (by omega)
theorem zR_b3 {f : Nat → Int32} {n b c d : Nat} {x : Nat → Nat} (h : zR f n x) (hb : b < 128) (hc : c < 128) (hd : d < 128) : zR (upd (upd (upd f (n + 2) (nI d)) (n + 1) (nI c)) n (nI b)) (n + 3) (zu (zu (zu x n b) (n + 1) c) (n + 2) d) := by
  refine ⟨fun i hi => ?_, fun i hi => ?_⟩
  · by_cases e : i = n
    · rw [e, pk_us, zu_n (by omega), zu_n (by omega), zu_s]
    · rw [pk_un e]
      by_cases e2 : i = n + 1
      · rw [e2, pk_us, zu_n (by omega), zu_s]
      · rw [pk_un e2]
        by_cases e3 : i = n + 2
        · rw [e3, pk_us, zu_s]
        · rw [pk_un e3, zu_n e3, zu_n e2, zu_n e]
          exact h.1 i (by omega)
  · by_cases e3 : i = n + 2
    · rw [e3, zu_s]; exact hd
    · rw [zu_n e3]
      by_cases e2 : i = n + 1
      · rw [e2, zu_s]; exact hc
      · rw [zu_n e2]
        by_cases e : i = n
        · rw [e, zu_s]; exact hb
        · rw [zu_n e]; exact h.2 i (by omega)
/-- how many digits; the text with them -/
def zdl (v : Nat) : Nat := if v < 10 then 1 else if v < 100 then 2 else 3
def zap (x : Nat → Nat) (n v : Nat) : Nat → Nat := if v < 10 then zu x n (48 + v) else if v < 100 then zu (zu x n (48 + v / 10)) (n + 1) (48 + v % 10) else zu (zu (zu x n (48 + v / 100)) (n + 1) (48 + v / 10 % 10)) (n + 2) (48 + v % 10)
theorem zdl_1 {v : Nat} (h : v < 10) : zdl v = 1 := if_pos h
theorem zdl_2 {v : Nat} (h : ¬ v < 10) (h2 : v < 100) : zdl v = 2 := (if_neg h).trans (if_pos h2)
theorem zdl_3 {v : Nat} (h : ¬ v < 10) (h2 : ¬ v < 100) : zdl v = 3 := (if_neg h).trans (if_neg h2)
theorem zdl_le {v : Nat} : 1 ≤ zdl v ∧ zdl v ≤ 3 ∧ (v < 100 → zdl v ≤ 2) := by
  by_cases h : v < 10
  · rw [zdl_1 h]; omega
  · by_cases h2 : v < 100
    · rw [zdl_2 h h2]; omega
    · rw [zdl_3 h h2]; omega
theorem z_by8 : ∀ c : Nat, c < 128 → (nI c).toInt8.toInt32 = nI c := by decide +kernel
theorem z_nby {c : Nat} (hc : c < 128) : vp_nar .byte (nI c) = nI c := by
  have h := pk_vb (nI c)
  rw [z_by8 c hc] at h
  exact h
theorem k_ens {n cap : Nat} (h : n ≤ cap) (hc : cap < 2 ^ 30) {post : Prop} (hp : post) : wpJ5_ensureCapacityInternal_d00df (nI n) cap post := by
  unfold wpJ5_ensureCapacityInternal_d00df
  rw [sb_shr0]
  exact br_t ((z_sub_le (by omega) hc).mpr h) hp
theorem k_apc {n cap c : Nat} {x : Nat → Nat} {b : Nat → Int32} (h : n + 1 ≤ cap) (hcap : cap < 2 ^ 30) (hc : c < 128) (hb : zR b n x) {post : Int32 → (Nat → Int32) → Prop} (hp : ∀ b', zR b' (n + 1) (zu x n c) → post (nI (n + 1)) b') : wpJ4_append_cf468 (nI c) (nI n) cap b post := by
  unfold wpJ4_append_cf468 wpJ5_append_3fe6f wpJ5_isLatin1_aae02 wpJ1_canEncode_fc78d
  rw [nI_1]
  refine k_ens h hcap (br_f (by decide) (br_f (nI_nlt (a := 255) (by omega) (by omega)) (br_f (by decide) ⟨vp_in_nI (by omega) (by omega), ?_⟩)))
  rw [nI_clamp (by omega), z_by8 c hc, z_nby hc]
  exact hp _ (zR_c hb hc)
/-- 'cm' -/
theorem k_cm {n cap : Nat} {x : Nat → Nat} {b : Nat → Int32} (h : n + 2 ≤ cap) (hcap : cap < 2 ^ 30) (hb : zR b n x) {post : Int32 → (Nat → Int32) → Prop} (hp : ∀ b', zR b' (n + 2) (zu (zu x n 99) (n + 1) 109) → post (nI (n + 2)) b') : wpJ4_append_15ec4 (gLen.getD 18 0) (fun j => (gByt.getD 18 []).getD j 0) (nI n) cap b post := by
  unfold wpJ4_append_15ec4 wpJ5_append_cf1ce wpJ0_length_8abf5 wpJ0_coder_7d493
  rw [show gLen.getD 18 0 = 2 from rfl]
  dsimp only
  rw [sb_shr0, nI_add]
  refine k_ens h hcap ?_
  unfold wpJ5_putStringAt_47b60 wpJ5_inflateIfNeededFor_a7421 wpJ0_getBytes_840e7 wpJ0_coder_7d493
  refine br_t rfl (br_m rfl ?_)
  rw [sb_shl0, nI_clamp (by omega), nI_clamp (by omega)]
  refine ⟨nI_pos (by omega), nI_pos (by omega), by omega, h, fun i hi => ?_, hp _ ?_⟩
  · rcases (show i = 0 ∨ i = 1 by omega) with rfl | rfl <;> decide
  · refine ⟨fun i hi => ?_, fun i hi => ?_⟩
    · by_cases e2 : i < n
      · rw [pk_cpy_out (Or.inl e2), zu_n (by omega), zu_n (by omega)]
        exact hb.1 i e2
      · rw [pk_cpy_in (by omega) (by omega)]
        by_cases e : i = n
        · rw [e, zu_n (by omega), zu_s, show 0 + (n - n) = 0 by omega]
          rfl
        · rw [show i = n + 1 by omega, zu_s, show 0 + (n + 1 - n) = 1 by omega]
          rfl
    · by_cases e2 : i = n + 1
      · rw [e2, zu_s]; omega
      · rw [zu_n e2]
        by_cases e : i = n
        · rw [e, zu_s]; omega
        · rw [zu_n e]; exact hb.2 i (by omega)
theorem z_s1 : ∀ v : Nat, v < 256 → v < 10 → ¬ (-nI v ≤ -10) := by decide +kernel
theorem z_s2 : ∀ v : Nat, v < 256 → ¬ v < 10 → -nI v ≤ -10 := by decide +kernel
theorem z_s3 : ∀ v : Nat, v < 256 → v < 100 → ¬ (-nI v ≤ 10 * (-10)) := by decide +kernel
theorem z_s4 : ∀ v : Nat, v < 256 → ¬ v < 100 → -nI v ≤ 10 * (-10) := by decide +kernel
theorem z_s5 : ∀ v : Nat, v < 256 → ¬ (-nI v ≤ 10 * (10 * (-10))) := by decide +kernel
theorem k_size {v : Nat} (hv : v < 256) {post : Int32 → Prop} (h : post (nI (zdl v))) : wpJ6_stringSize_0f7a4 (nI v) post := by
  unfold wpJ6_stringSize_0f7a4
  refine br_f (nI_pos (by omega)) ⟨3, br_f (by decide) ?_⟩
  by_cases h1 : v < 10
  · rw [zdl_1 h1] at h
    exact br_f (z_s1 v hv h1) h
  · refine br_t (z_s2 v hv h1) (br_f (by decide) ?_)
    by_cases h2 : v < 100
    · rw [zdl_2 h1 h2] at h
      exact br_f (z_s3 v hv h2) h
    · rw [zdl_3 h1 h2] at h
      exact br_t (z_s4 v hv h2) (br_f (by decide) (br_f (z_s5 v hv) h))
theorem z_g1 : ∀ v : Nat, v < 256 → v < 100 → (-100) < -nI v := by decide +kernel
theorem z_g2 : ∀ v : Nat, v < 256 → ¬ v < 100 → ¬ (-100) < -nI v := by decide +kernel
theorem z_g3 : ∀ v : Nat, v < 256 → v < 10 → (-9) ≤ -nI v := by decide +kernel
theorem z_g4 : ∀ v : Nat, v < 256 → ¬ v < 10 → ¬ (-9) ≤ -nI v := by decide +kernel
theorem z_g5 : ∀ v : Nat, v < 256 → -(-nI v) = nI v := by decide +kernel
theorem z_g6 : ∀ v : Nat, v < 256 → ((-nI v / 100) * 100) - (-nI v) = nI (v % 100) := by decide +kernel
theorem z_g7 : ∀ v : Nat, v < 256 → -nI v / 100 = -nI (v / 100) := by decide +kernel
theorem k_chars {v n cap : Nat} (hv : v < 256) (hn : n + zdl v ≤ cap) (hcap : cap < 2 ^ 30) {x : Nat → Nat} {b : Nat → Int32} (hb : zR b n x) {post : Int32 → (Nat → Int32) → Prop} (hp : ∀ p b', zR b' (n + zdl v) (zap x n v) → post p b') : wpJ6_getChars_ba4f3 (nI v) (nI (n + zdl v)) cap b post := by
  unfold wpJ6_getChars_ba4f3
  refine br_t (nI_pos' (by omega)) (br_m rfl ⟨2, ?_⟩)
  by_cases h1 : v < 10
  · have ed := zdl_1 h1
    have ez : zap x n v = zu x n (48 + v) := if_pos h1
    rw [ed] at hn hp ⊢
    rw [ez] at hp
    refine br_t (z_g1 v hv (by omega)) ?_
    rw [z_g5 v hv, nI_clamp (by omega), pk_m1, nI_clamp (by omega)]
    refine ⟨vp_in_nI (by omega) (by omega), vp_in_nI (by omega) (by omega), br_t (z_g3 v hv h1) ?_⟩
    unfold wpJ6_getChars_ba4f3_L104
    refine br_t rfl (hp _ _ ?_)
    rw [show gOnes v = nI (48 + v) by unfold gOnes; rw [Nat.mod_eq_of_lt h1], z_nby (by omega)]
    exact zR_c hb (by omega)
  · by_cases h2 : v < 100
    · have ed := zdl_2 h1 h2
      have ez : zap x n v = zu (zu x n (48 + v / 10)) (n + 1) (48 + v % 10) := (if_neg h1).trans (if_pos h2)
      rw [ed] at hn hp ⊢
      rw [ez] at hp
      refine br_t (z_g1 v hv h2) ?_
      rw [z_g5 v hv, nI_clamp (by omega), show n + 2 = n + 1 + 1 from rfl, pk_m1, pk_m1, nI_clamp (by omega), nI_clamp (by omega)]
      refine ⟨vp_in_nI (by omega) (by omega), vp_in_nI (by omega) (by omega), br_f (z_g4 v hv h1) ⟨vp_in_nI (by omega) (by omega), vp_in_nI (by omega) (by omega), ?_⟩⟩
      unfold wpJ6_getChars_ba4f3_L104
      refine br_t rfl (hp _ _ ?_)
      rw [show gOnes v = nI (48 + v % 10) from rfl, show gTens v = nI (48 + v / 10) from rfl, z_nby (by omega), z_nby (by omega)]
      exact zR_b2 hb (by omega) (by omega)
    · have ed := zdl_3 h1 h2
      have ez : zap x n v = zu (zu (zu x n (48 + v / 100)) (n + 1) (48 + v / 10 % 10)) (n + 2) (48 + v % 10) := (if_neg h1).trans (if_neg h2)
      rw [ed] at hn hp ⊢
      rw [ez] at hp
      refine br_f (z_g2 v hv h2) ?_
      rw [z_g6 v hv, nI_clamp (by omega), show n + 3 = n + 2 + 1 from rfl, pk_m1, show n + 2 = n + 1 + 1 from rfl, pk_m1, nI_clamp (by omega), nI_clamp (by omega), z_g7 v hv]
      refine ⟨vp_in_nI (by omega) (by omega), vp_in_nI (by omega) (by omega), vp_in_nI (by omega) (by omega), vp_in_nI (by omega) (by omega), ?_⟩
      refine br_t (z_g1 (v / 100) (by omega) (by omega)) ?_
      rw [z_g5 (v / 100) (by omega), nI_clamp (by omega), pk_m1, nI_clamp (by omega)]
      refine ⟨vp_in_nI (by omega) (by omega), vp_in_nI (by omega) (by omega), br_t (z_g3 (v / 100) (by omega) (by omega)) ?_⟩
      unfold wpJ6_getChars_ba4f3_L104
      refine br_t rfl (hp _ _ ?_)
      rw [show gOnes (v % 100) = nI (48 + v % 10) by unfold gOnes; rw [show v % 100 % 10 = v % 10 by omega], show gTens (v % 100) = nI (48 + v / 10 % 10) by unfold gTens; rw [show v % 100 / 10 = v / 10 % 10 by omega], show gOnes (v / 100) = nI (48 + v / 100) by unfold gOnes; rw [show v / 100 % 10 = v / 100 by omega], z_nby (by omega), z_nby (by omega), z_nby (by omega)]
      exact zR_b3 hb (by omega) (by omega) (by omega)
theorem k_api {v n cap : Nat} (hv : v < 256) (hn : n + zdl v ≤ cap) (hcap : cap < 2 ^ 30) {x : Nat → Nat} {b : Nat → Int32} (hb : zR b n x) {post : Int32 → (Nat → Int32) → Prop} (hp : ∀ b', zR b' (n + zdl v) (zap x n v) → post (nI (n + zdl v)) b') : wpJ4_append_bf812 (nI v) (nI n) cap b post := by
  unfold wpJ4_append_bf812 wpJ5_append_c97b9 wpJ5_isLatin1_aae02
  refine k_size hv ?_
  rw [nI_add]
  exact k_ens hn hcap (br_f (by decide) (k_chars hv hn hcap hb (fun _ b' h' => hp b' h')))
theorem k_set0 {n cap : Nat} (hn : n ≤ cap) (hcap : cap < 2 ^ 30) {ml : Int32} {post : Int32 → Int32 → Prop} (h : ∀ ml', post ml' (nI 0)) : wpJ4_setLength_d00df 0 ml (nI n) cap post := by
  unfold wpJ4_setLength_d00df wpJ5_setLength_d00df
  refine br_t (by decide) (k_ens (n := 0) (Nat.zero_le _) hcap (br_t (nI_pos' (by omega)) ?_))
  exact ⟨fun _ => h _, fun _ => h _⟩
/-! the reference's row -/
theorem m_puts {n c : Nat} (hn : n < 40) {x : Nat → Nat} {l : Nat → Int32} (hl : zR l n x) (hc : c < 128) {cI : Int32} (ec : cI = nI c) {post : Int32 → (Nat → Int32) → Prop} (hp : ∀ l', zR l' (n + 1) (zu x n c) → post (nI (n + 1)) l') : wpX7_puts cI (nI n) l post := by
  subst ec
  unfold wpX7_puts
  rw [nI_clamp (by omega), nI_1]
  exact ⟨vp_in_nI hn (by omega), hp _ (zR_c hl hc)⟩
theorem m_dig {v : Nat} (hv : v < 2 ^ 31) : 48 + (nI v - nI v / 10 * 10) = nI (48 + v % 10) := by
  rw [show nI v - nI v / 10 * 10 = nI (v % 10) from pk_rem (d := 10) hv (by omega) (by omega)]
  exact nI_add 48 _
theorem m_num {v n : Nat} (hv : v < 256) (hn : n + zdl v ≤ 40) {x : Nat → Nat} {l : Nat → Int32} (hl : zR l n x) {post : Int32 → (Nat → Int32) → Prop} (hp : ∀ l', zR l' (n + zdl v) (zap x n v) → post (nI (n + zdl v)) l') : wpX7_number_d2 (nI v) (nI n) l post := by
  have e10 : nI v / 10 = nI (v / 10) := pk_div (d := 10) (by omega) (by omega) (by omega)
  have e100 : nI (v / 10) / 10 = nI (v / 10 / 10) := pk_div (d := 10) (by omega) (by omega) (by omega)
  unfold wpX7_number_d2
  by_cases h1 : v < 10
  · have ed := zdl_1 h1
    have ez : zap x n v = zu x n (48 + v) := if_pos h1
    rw [ed] at hn hp
    rw [ez] at hp
    exact br_t (nI_lt (b := 10) h1 (by omega)) (m_puts (by omega) hl (c := 48 + v) (by omega) (by rw [m_dig (by omega), Nat.mod_eq_of_lt h1]) hp)
  · refine br_f (nI_nlt (b := 10) (by omega) (by omega)) ?_
    unfold wpX7_number_d1
    rw [e10]
    by_cases h2 : v < 100
    · have ed := zdl_2 h1 h2
      have ez : zap x n v = zu (zu x n (48 + v / 10)) (n + 1) (48 + v % 10) := (if_neg h1).trans (if_pos h2)
      rw [ed] at hn hp
      rw [ez] at hp
      refine br_t (nI_lt (b := 10) (by omega) (by omega)) (m_puts (by omega) hl (c := 48 + v / 10) (by omega) (by rw [m_dig (by omega), Nat.mod_eq_of_lt (show v / 10 < 10 by omega)]) (fun l1 h1' => ?_))
      exact m_puts (by omega) h1' (c := 48 + v % 10) (by omega) (by rw [← e10, m_dig (by omega)]) hp
    · have ed := zdl_3 h1 h2
      have ez : zap x n v = zu (zu (zu x n (48 + v / 100)) (n + 1) (48 + v / 10 % 10)) (n + 2) (48 + v % 10) := (if_neg h1).trans (if_neg h2)
      rw [ed] at hn hp
      rw [ez] at hp
      refine br_f (nI_nlt (b := 10) (by omega) (by omega)) ?_
      unfold wpX7_number_d0
      rw [e100]
      refine br_t (nI_lt (b := 10) (by omega) (by omega)) (m_puts (by omega) hl (c := 48 + v / 100) (by omega) (by rw [m_dig (by omega), show v / 10 / 10 % 10 = v / 100 by omega]) (fun l1 h1' => ?_))
      refine m_puts (by omega) h1' (c := 48 + v / 10 % 10) (by omega) (by rw [← e100, m_dig (by omega)]) (fun l2 h2' => ?_)
      exact m_puts (by omega) h2' (c := 48 + v % 10) (by omega) (by rw [← e10, m_dig (by omega)]) hp
theorem z_ou {n : Nat} {x : Nat → Nat} {b l : Nat → Int32} (hn : n ≤ 16) (hb : zR b n x) (hl : zR l n x) : zOu (nI n) 16 b (nI n) l := ⟨rfl, n, x, hn, rfl, rfl, fun i hi => ⟨hb.2 i hi, hb.1 i hi, hl.1 i hi⟩⟩
/-- the text of a queue's first k orders -/
def zqt (A : Nat → Nat) (j : Nat) : Nat → Nat × (Nat → Nat)
  | 0 => (0, fun _ => 0)
  | k + 1 => if k = 0 then ((zqt A j k).1 + zdl (A (98 + 9 * j + k)), zap (zqt A j k).2 (zqt A j k).1 (A (98 + 9 * j + k))) else ((zqt A j k).1 + 1 + zdl (A (98 + 9 * j + k)), zap (zu (zqt A j k).2 (zqt A j k).1 44) ((zqt A j k).1 + 1) (A (98 + 9 * j + k)))
theorem zqt_le {A : Nat → Nat} {j : Nat} : ∀ k : Nat, (∀ q : Nat, q < k → A (98 + 9 * j + q) < 12) → (zqt A j k).1 + 1 ≤ 3 * k ∨ (k = 0 ∧ (zqt A j k).1 = 0)
  | 0, _ => Or.inr ⟨rfl, rfl⟩
  | k + 1, h => by
    have a := zqt_le k (fun q hq => h q (by omega))
    have b := @zdl_le (A (98 + 9 * j + k))
    have c := h k (by omega)
    refine Or.inl ?_
    unfold zqt
    by_cases e : k = 0
    · rw [if_pos e]
      dsimp only
      omega
    · rw [if_neg e]
      dsimp only
      omega
theorem z_bc : ∀ c : Nat, c < 128 → ((nI c &&& 255).toUInt32 % 65536).toInt32 = nI c := by decide +kernel
theorem k_charAt {n cap i c : Nat} (hn : n ≤ cap) (hi : i < n) (hcap : cap < 2 ^ 30) {b : Nat → Int32} (hb : b i = nI c) (hc : c < 128) {post : Int32 → Prop} (h : post (nI c)) : wpJ4_charAt_5068e (nI i) (nI n) cap b post := by
  unfold wpJ4_charAt_5068e wpJ5_charAt_5068e wpJ0_checkIndex_df160 wpJ3_checkIndex_8e157
  rw [sb_shr0]
  have e : (if nI cap < nI n then nI cap else nI n) = nI n := if_neg (nI_nlt hn (by omega))
  rw [e, nI_clamp (by omega), hb, z_bc c hc]
  exact br_f (nI_pos (by omega)) (br_t (nI_lt hi (by omega)) ⟨vp_in_nI (by omega) (by omega), (pk_charN (by omega)).1, (pk_charN (by omega)).1, h⟩)
