/-! output -/
/-- a row holds a text of signs -/
def zR (f : Nat → Int32) (n : Nat) (x : Nat → Nat) : Prop := zL f n x ∧ ∀ i : Nat, i < n → x i < 128
theorem zR_0 {f : Nat → Int32} {x : Nat → Nat} : zR f 0 x := ⟨fun i hi => absurd hi (Nat.not_lt_zero i), fun i hi => absurd hi (Nat.not_lt_zero i)⟩
theorem zR_c {f : Nat → Int32} {n c : Nat} {x : Nat → Nat} (h : zR f n x) (hc : c < 128) : zR (upd f n (nI c)) (n + 1) (zu x n c) := by
  refine ⟨zL_ins h.1 (fun i hi => zu_n (by omega)) zu_s, fun i hi => ?_⟩
  by_cases e : i = n
  · rw [e, zu_s]; exact hc
  · rw [zu_n e]; exact h.2 i (by omega)
/-- from the back: two signs -/
theorem zR_b2 {f : Nat → Int32} {n c d : Nat} {x : Nat → Nat} (h : zR f n x) (hc : c < 128) (hd : d < 128) : zR (upd (upd f (n + 1) (nI d)) n (nI c)) (n + 2) (zu (zu x n c) (n + 1) d) := by
  refine ⟨fun i hi => ?_, fun i hi => ?_⟩
  · by_cases e : i = n
    · rw [e, pk_us, zu_n (by omega), zu_s]
    · rw [pk_un e]
      by_cases e2 : i = n + 1
      · rw [e2, pk_us, zu_s]
      · rw [pk_un e2, zu_n e2, zu_n e]
        exact h.1 i (by omega)
  · by_cases e2 : i = n + 1
    · rw [e2, zu_s]; exact hd
    · rw [zu_n e2]
      by_cases e : i = n
      · rw [e, zu_s]; exact hc
      · rw [zu_n e]; exact h.2 i (by omega)
theorem zR_b3 {f : Nat → Int32} {n b c d : Nat} {x : Nat → Nat} (h : zR f n x) (hb : b < 128) (hc : c < 128) (hd : d < 128) : zR (upd (upd (upd f (n + 2) (nI d)) (n + 1) (nI c)) n (nI b)) (n + 3) (zu (zu (zu x n b) (n + 1) c) (n + 2) d) := by
  refine ⟨fun i hi => ?_, fun i hi => ?_⟩
  · by_cases e : i = n
    · rw [e, pk_us, zu_n (by omega), zu_n (by omega), zu_s]
    · rw [pk_un e]
      by_cases e2 : i = n + 1
      · rw [e2, pk_us, zu_n (by omega), zu_s]
      · rw [pk_un e2]
        by_cases e3 : i = n + 2
        · rw [e3, pk_us, zu_s]
        · rw [pk_un e3, zu_n e3, zu_n e2, zu_n e]
          exact h.1 i (by omega)
  · by_cases e3 : i = n + 2
    · rw [e3, zu_s]; exact hd
    · rw [zu_n e3]
      by_cases e2 : i = n + 1
      · rw [e2, zu_s]; exact hc
      · rw [zu_n e2]
        by_cases e : i = n
        · rw [e, zu_s]; exact hb
        · rw [zu_n e]; exact h.2 i (by omega)
/-- how many digits; the text with them -/
def zdl (v : Nat) : Nat := if v < 10 then 1 else if v < 100 then 2 else 3
def zap (x : Nat → Nat) (n v : Nat) : Nat → Nat := if v < 10 then zu x n (48 + v) else if v < 100 then zu (zu x n (48 + v / 10)) (n + 1) (48 + v % 10) else zu (zu (zu x n (48 + v / 100)) (n + 1) (48 + v / 10 % 10)) (n + 2) (48 + v % 10)
theorem zdl_1 {v : Nat} (h : v < 10) : zdl v = 1 := if_pos h
theorem zdl_2 {v : Nat} (h : ¬ v < 10) (h2 : v < 100) : zdl v = 2 := (if_neg h).trans (if_pos h2)
theorem zdl_3 {v : Nat} (h : ¬ v < 10) (h2 : ¬ v < 100) : zdl v = 3 := (if_neg h).trans (if_neg h2)
theorem zdl_le {v : Nat} : 1 ≤ zdl v ∧ zdl v ≤ 3 ∧ (v < 100 → zdl v ≤ 2) := by
  by_cases h : v < 10
  · rw [zdl_1 h]; omega
  · by_cases h2 : v < 100
    · rw [zdl_2 h h2]; omega
    · rw [zdl_3 h h2]; omega
theorem z_by8 : ∀ c : Nat, c < 128 → (nI c).toInt8.toInt32 = nI c := by decide +kernel
theorem z_nby {c : Nat} (hc : c < 128) : vp_nar .byte (nI c) = nI c := by
  have h := pk_vb (nI c)
  rw [z_by8 c hc] at h
  exact h
theorem k_ens {n cap : Nat} (h : n ≤ cap) (hc : cap < 2 ^ 30) {post : Prop} (hp : post) : wpJ5_ensureCapacityInternal_d00df (nI n) cap post := by
  unfold wpJ5_ensureCapacityInternal_d00df
  rw [sb_shr0]
  exact br_t ((z_sub_le (by omega) hc).mpr h) hp
theorem k_apc {n cap c : Nat} {x : Nat → Nat} {b : Nat → Int32} (h : n + 1 ≤ cap) (hcap : cap < 2 ^ 30) (hc : c < 128) (hb : zR b n x) {post : Int32 → (Nat → Int32) → Prop} (hp : ∀ b', zR b' (n + 1) (zu x n c) → post (nI (n + 1)) b') : wpJ4_append_cf468 (nI c) (nI n) cap b post := by
  unfold wpJ4_append_cf468 wpJ5_append_3fe6f wpJ5_isLatin1_aae02 wpJ1_canEncode_fc78d
  rw [nI_1]
  refine k_ens h hcap (br_f (by decide) (br_f (nI_nlt (a := 255) (by omega) (by omega)) (br_f (by decide) ⟨vp_in_nI (by omega) (by omega), ?_⟩)))
  rw [nI_clamp (by omega), z_by8 c hc, z_nby hc]
  exact hp _ (zR_c hb hc)
/-- 'cm' -/
theorem k_cm {n cap : Nat} {x : Nat → Nat} {b : Nat → Int32} (h : n + 2 ≤ cap) (hcap : cap < 2 ^ 30) (hb : zR b n x) {post : Int32 → (Nat → Int32) → Prop} (hp : ∀ b', zR b' (n + 2) (zu (zu x n 99) (n + 1) 109) → post (nI (n + 2)) b') : wpJ4_append_15ec4 (gLen.getD 18 0) (fun j => (gByt.getD 18 []).getD j 0) (nI n) cap b post := by
  unfold wpJ4_append_15ec4 wpJ5_append_cf1ce wpJ0_length_8abf5 wpJ0_coder_7d493
  rw [show gLen.getD 18 0 = 2 from rfl]
  dsimp only
  rw [sb_shr0, nI_add]
  refine k_ens h hcap ?_
  unfold wpJ5_putStringAt_47b60 wpJ5_inflateIfNeededFor_a7421 wpJ0_getBytes_840e7 wpJ0_coder_7d493
  refine br_t rfl (br_m rfl ?_)
  rw [sb_shl0, nI_clamp (by omega), nI_clamp (by omega)]
  refine ⟨nI_pos (by omega), nI_pos (by omega), by omega, h, fun i hi => ?_, hp _ ?_⟩
  · rcases (show i = 0 ∨ i = 1 by omega) with rfl | rfl <;> decide
  · refine ⟨fun i hi => ?_, fun i hi => ?_⟩
    · by_cases e2 : i < n
      · rw [pk_cpy_out (Or.inl e2), zu_n (by omega), zu_n (by omega)]
        exact hb.1 i e2
      · rw [pk_cpy_in (by omega) (by omega)]
        by_cases e : i = n
        · rw [e, zu_n (by omega), zu_s, show 0 + (n - n) = 0 by omega]
          rfl
        · rw [show i = n + 1 by omega, zu_s, show 0 + (n + 1 - n) = 1 by omega]
          rfl
    · by_cases e2 : i = n + 1
      · rw [e2, zu_s]; omega
      · rw [zu_n e2]
        by_cases e : i = n
        · rw [e, zu_s]; omega
        · rw [zu_n e]; exact hb.2 i (by omega)
theorem z_s1 : ∀ v : Nat, v < 256 → v < 10 → ¬ (-nI v ≤ -10) := by decide +kernel
theorem z_s2 : ∀ v : Nat, v < 256 → ¬ v < 10 → -nI v ≤ -10 := by decide +kernel
theorem z_s3 : ∀ v : Nat, v < 256 → v < 100 → ¬ (-nI v ≤ 10 * (-10)) := by decide +kernel
theorem z_s4 : ∀ v : Nat, v < 256 → ¬ v < 100 → -nI v ≤ 10 * (-10) := by decide +kernel
theorem z_s5 : ∀ v : Nat, v < 256 → ¬ (-nI v ≤ 10 * (10 * (-10))) := by decide +kernel
theorem k_size {v : Nat} (hv : v < 256) {post : Int32 → Prop} (h : post (nI (zdl v))) : wpJ6_stringSize_0f7a4 (nI v) post := by
  unfold wpJ6_stringSize_0f7a4
  refine br_f (nI_pos (by omega)) ⟨3, br_f (by decide) ?_⟩
  by_cases h1 : v < 10
  · rw [zdl_1 h1] at h
    exact br_f (z_s1 v hv h1) h
  · refine br_t (z_s2 v hv h1) (br_f (by decide) ?_)
    by_cases h2 : v < 100
    · rw [zdl_2 h1 h2] at h
      exact br_f (z_s3 v hv h2) h
    · rw [zdl_3 h1 h2] at h
      exact br_t (z_s4 v hv h2) (br_f (by decide) (br_f (z_s5 v hv) h))
theorem z_g1 : ∀ v : Nat, v < 256 → v < 100 → (-100) < -nI v := by decide +kernel
theorem z_g2 : ∀ v : Nat, v < 256 → ¬ v < 100 → ¬ (-100) < -nI v := by decide +kernel
theorem z_g3 : ∀ v : Nat, v < 256 → v < 10 → (-9) ≤ -nI v := by decide +kernel
theorem z_g4 : ∀ v : Nat, v < 256 → ¬ v < 10 → ¬ (-9) ≤ -nI v := by decide +kernel
theorem z_g5 : ∀ v : Nat, v < 256 → -(-nI v) = nI v := by decide +kernel
theorem z_g6 : ∀ v : Nat, v < 256 → ((-nI v / 100) * 100) - (-nI v) = nI (v % 100) := by decide +kernel
theorem z_g7 : ∀ v : Nat, v < 256 → -nI v / 100 = -nI (v / 100) := by decide +kernel
theorem k_chars {v n cap : Nat} (hv : v < 256) (hn : n + zdl v ≤ cap) (hcap : cap < 2 ^ 30) {x : Nat → Nat} {b : Nat → Int32} (hb : zR b n x) {post : Int32 → (Nat → Int32) → Prop} (hp : ∀ p b', zR b' (n + zdl v) (zap x n v) → post p b') : wpJ6_getChars_ba4f3 (nI v) (nI (n + zdl v)) cap b post := by
  unfold wpJ6_getChars_ba4f3
  refine br_t (nI_pos' (by omega)) (br_m rfl ⟨2, ?_⟩)
  by_cases h1 : v < 10
  · have ed := zdl_1 h1
    have ez : zap x n v = zu x n (48 + v) := if_pos h1
    rw [ed] at hn hp ⊢
    rw [ez] at hp
    refine br_t (z_g1 v hv (by omega)) ?_
    rw [z_g5 v hv, nI_clamp (by omega), pk_m1, nI_clamp (by omega)]
    refine ⟨vp_in_nI (by omega) (by omega), vp_in_nI (by omega) (by omega), br_t (z_g3 v hv h1) ?_⟩
    unfold wpJ6_getChars_ba4f3_L104
    refine br_t rfl (hp _ _ ?_)
    rw [show gOnes v = nI (48 + v) by unfold gOnes; rw [Nat.mod_eq_of_lt h1], z_nby (by omega)]
    exact zR_c hb (by omega)
  · by_cases h2 : v < 100
    · have ed := zdl_2 h1 h2
      have ez : zap x n v = zu (zu x n (48 + v / 10)) (n + 1) (48 + v % 10) := (if_neg h1).trans (if_pos h2)
      rw [ed] at hn hp ⊢
      rw [ez] at hp
      refine br_t (z_g1 v hv h2) ?_
      rw [z_g5 v hv, nI_clamp (by omega), show n + 2 = n + 1 + 1 from rfl, pk_m1, pk_m1, nI_clamp (by omega), nI_clamp (by omega)]
      refine ⟨vp_in_nI (by omega) (by omega), vp_in_nI (by omega) (by omega), br_f (z_g4 v hv h1) ⟨vp_in_nI (by omega) (by omega), vp_in_nI (by omega) (by omega), ?_⟩⟩
      unfold wpJ6_getChars_ba4f3_L104
      refine br_t rfl (hp _ _ ?_)
      rw [show gOnes v = nI (48 + v % 10) from rfl, show gTens v = nI (48 + v / 10) from rfl, z_nby (by omega), z_nby (by omega)]
      exact zR_b2 hb (by omega) (by omega)
    · have ed := zdl_3 h1 h2
      have ez : zap x n v = zu (zu (zu x n (48 + v / 100)) (n + 1) (48 + v / 10 % 10)) (n + 2) (48 + v % 10) := (if_neg h1).trans (if_neg h2)
      rw [ed] at hn hp ⊢
      rw [ez] at hp
      refine br_f (z_g2 v hv h2) ?_
      rw [z_g6 v hv, nI_clamp (by omega), show n + 3 = n + 2 + 1 from rfl, pk_m1, show n + 2 = n + 1 + 1 from rfl, pk_m1, nI_clamp (by omega), nI_clamp (by omega), z_g7 v hv]
      refine ⟨vp_in_nI (by omega) (by omega), vp_in_nI (by omega) (by omega), vp_in_nI (by omega) (by omega), vp_in_nI (by omega) (by omega), ?_⟩
      refine br_t (z_g1 (v / 100) (by omega) (by omega)) ?_
      rw [z_g5 (v / 100) (by omega), nI_clamp (by omega), pk_m1, nI_clamp (by omega)]
      refine ⟨vp_in_nI (by omega) (by omega), vp_in_nI (by omega) (by omega), br_t (z_g3 (v / 100) (by omega) (by omega)) ?_⟩
      unfold wpJ6_getChars_ba4f3_L104
      refine br_t rfl (hp _ _ ?_)
      rw [show gOnes (v % 100) = nI (48 + v % 10) by unfold gOnes; rw [show v % 100 % 10 = v % 10 by omega], show gTens (v % 100) = nI (48 + v / 10 % 10) by unfold gTens; rw [show v % 100 / 10 = v / 10 % 10 by omega], show gOnes (v / 100) = nI (48 + v / 100) by unfold gOnes; rw [show v / 100 % 10 = v / 100 by omega], z_nby (by omega), z_nby (by omega), z_nby (by omega)]
      exact zR_b3 hb (by omega) (by omega) (by omega)
theorem k_api {v n cap : Nat} (hv : v < 256) (hn : n + zdl v ≤ cap) (hcap : cap < 2 ^ 30) {x : Nat → Nat} {b : Nat → Int32} (hb : zR b n x) {post : Int32 → (Nat → Int32) → Prop} (hp : ∀ b', zR b' (n + zdl v) (zap x n v) → post (nI (n + zdl v)) b') : wpJ4_append_bf812 (nI v) (nI n) cap b post := by
  unfold wpJ4_append_bf812 wpJ5_append_c97b9 wpJ5_isLatin1_aae02
  refine k_size hv ?_
  rw [nI_add]
  exact k_ens hn hcap (br_f (by decide) (k_chars hv hn hcap hb (fun _ b' h' => hp b' h')))
theorem k_set0 {n cap : Nat} (hn : n ≤ cap) (hcap : cap < 2 ^ 30) {ml : Int32} {post : Int32 → Int32 → Prop} (h : ∀ ml', post ml' (nI 0)) : wpJ4_setLength_d00df 0 ml (nI n) cap post := by
  unfold wpJ4_setLength_d00df wpJ5_setLength_d00df
  refine br_t (by decide) (k_ens (n := 0) (Nat.zero_le _) hcap (br_t (nI_pos' (by omega)) ?_))
  exact ⟨fun _ => h _, fun _ => h _⟩
/-! the reference's row -/
theorem m_puts {n c : Nat} (hn : n < 40) {x : Nat → Nat} {l : Nat → Int32} (hl : zR l n x) (hc : c < 128) {cI : Int32} (ec : cI = nI c) {post : Int32 → (Nat → Int32) → Prop} (hp : ∀ l', zR l' (n + 1) (zu x n c) → post (nI (n + 1)) l') : wpX7_puts cI (nI n) l post := by
  subst ec
  unfold wpX7_puts
  rw [nI_clamp (by omega), nI_1]
  exact ⟨vp_in_nI hn (by omega), hp _ (zR_c hl hc)⟩
theorem m_dig {v : Nat} (hv : v < 2 ^ 31) : 48 + (nI v - nI v / 10 * 10) = nI (48 + v % 10) := by
  rw [show nI v - nI v / 10 * 10 = nI (v % 10) from pk_rem (d := 10) hv (by omega) (by omega)]
  exact nI_add 48 _
theorem m_num {v n : Nat} (hv : v < 256) (hn : n + zdl v ≤ 40) {x : Nat → Nat} {l : Nat → Int32} (hl : zR l n x) {post : Int32 → (Nat → Int32) → Prop} (hp : ∀ l', zR l' (n + zdl v) (zap x n v) → post (nI (n + zdl v)) l') : wpX7_number_d2 (nI v) (nI n) l post := by
  have e10 : nI v / 10 = nI (v / 10) := pk_div (d := 10) (by omega) (by omega) (by omega)
  have e100 : nI (v / 10) / 10 = nI (v / 10 / 10) := pk_div (d := 10) (by omega) (by omega) (by omega)
  unfold wpX7_number_d2
  by_cases h1 : v < 10
  · have ed := zdl_1 h1
    have ez : zap x n v = zu x n (48 + v) := if_pos h1
    rw [ed] at hn hp
    rw [ez] at hp
    exact br_t (nI_lt (b := 10) h1 (by omega)) (m_puts (by omega) hl (c := 48 + v) (by omega) (by rw [m_dig (by omega), Nat.mod_eq_of_lt h1]) hp)
  · refine br_f (nI_nlt (b := 10) (by omega) (by omega)) ?_
    unfold wpX7_number_d1
    rw [e10]
    by_cases h2 : v < 100
    · have ed := zdl_2 h1 h2
      have ez : zap x n v = zu (zu x n (48 + v / 10)) (n + 1) (48 + v % 10) := (if_neg h1).trans (if_pos h2)
      rw [ed] at hn hp
      rw [ez] at hp
      refine br_t (nI_lt (b := 10) (by omega) (by omega)) (m_puts (by omega) hl (c := 48 + v / 10) (by omega) (by rw [m_dig (by omega), Nat.mod_eq_of_lt (show v / 10 < 10 by omega)]) (fun l1 h1' => ?_))
      exact m_puts (by omega) h1' (c := 48 + v % 10) (by omega) (by rw [← e10, m_dig (by omega)]) hp
    · have ed := zdl_3 h1 h2
      have ez : zap x n v = zu (zu (zu x n (48 + v / 100)) (n + 1) (48 + v / 10 % 10)) (n + 2) (48 + v % 10) := (if_neg h1).trans (if_neg h2)
      rw [ed] at hn hp
      rw [ez] at hp
      refine br_f (nI_nlt (b := 10) (by omega) (by omega)) ?_
      unfold wpX7_number_d0
      rw [e100]
      refine br_t (nI_lt (b := 10) (by omega) (by omega)) (m_puts (by omega) hl (c := 48 + v / 100) (by omega) (by rw [m_dig (by omega), show v / 10 / 10 % 10 = v / 100 by omega]) (fun l1 h1' => ?_))
      refine m_puts (by omega) h1' (c := 48 + v / 10 % 10) (by omega) (by rw [← e100, m_dig (by omega)]) (fun l2 h2' => ?_)
      exact m_puts (by omega) h2' (c := 48 + v % 10) (by omega) (by rw [← e10, m_dig (by omega)]) hp
theorem z_ou {n : Nat} {x : Nat → Nat} {b l : Nat → Int32} (hn : n ≤ 16) (hb : zR b n x) (hl : zR l n x) : zOu (nI n) 16 b (nI n) l := ⟨rfl, n, x, hn, rfl, rfl, fun i hi => ⟨hb.2 i hi, hb.1 i hi, hl.1 i hi⟩⟩
/-- the text of a queue's first k orders -/
def zqt (A : Nat → Nat) (j : Nat) : Nat → Nat × (Nat → Nat)
  | 0 => (0, fun _ => 0)
  | k + 1 => if k = 0 then ((zqt A j k).1 + zdl (A (98 + 9 * j + k)), zap (zqt A j k).2 (zqt A j k).1 (A (98 + 9 * j + k))) else ((zqt A j k).1 + 1 + zdl (A (98 + 9 * j + k)), zap (zu (zqt A j k).2 (zqt A j k).1 44) ((zqt A j k).1 + 1) (A (98 + 9 * j + k)))
theorem zqt_le {A : Nat → Nat} {j : Nat} : ∀ k : Nat, (∀ q : Nat, q < k → A (98 + 9 * j + q) < 12) → (zqt A j k).1 + 1 ≤ 3 * k ∨ (k = 0 ∧ (zqt A j k).1 = 0)
  | 0, _ => Or.inr ⟨rfl, rfl⟩
  | k + 1, h => by
    have a := zqt_le k (fun q hq => h q (by omega))
    have b := @zdl_le (A (98 + 9 * j + k))
    have c := h k (by omega)
    refine Or.inl ?_
    unfold zqt
    by_cases e : k = 0
    · rw [if_pos e]
      dsimp only
      omega
    · rw [if_neg e]
      dsimp only
      omega
theorem z_bc : ∀ c : Nat, c < 128 → ((nI c &&& 255).toUInt32 % 65536).toInt32 = nI c := by decide +kernel
theorem k_charAt {n cap i c : Nat} (hn : n ≤ cap) (hi : i < n) (hcap : cap < 2 ^ 30) {b : Nat → Int32} (hb : b i = nI c) (hc : c < 128) {post : Int32 → Prop} (h : post (nI c)) : wpJ4_charAt_5068e (nI i) (nI n) cap b post := by
  unfold wpJ4_charAt_5068e wpJ5_charAt_5068e wpJ0_checkIndex_df160 wpJ3_checkIndex_8e157
  rw [sb_shr0]
  have e : (if nI cap < nI n then nI cap else nI n) = nI n := if_neg (nI_nlt hn (by omega))
  rw [e, nI_clamp (by omega), hb, z_bc c hc]
  exact br_f (nI_pos (by omega)) (br_t (nI_lt hi (by omega)) ⟨vp_in_nI (by omega) (by omega), (pk_charN (by omega)).1, (pk_charN (by omega)).1, h⟩)
theorem pc43 {tb : Nat} (htb : tb + 36000 < 2 ^ 29) {v1 : Int32} {t_time : Int32} {s_lower : Nat → Int32} {s_higher : Nat → Int32} {s_kind : Nat → Int32} {s_snow : Nat → Int32} {s_saltEnd : Nat → Int32} {s_count : Int32} {b_mlo : Int32} {b_counto : Int32} {b_capo : Nat} {b_byteso : Nat → Int32} {m_thrown : Int32} {m_lined : Int32} {m_s : Nat → Int32} {m_line : Nat → Int32} {o : Nat → Int64} {t_store : Int32} {t_rate : Int32} {t_force : Int32} {t_cleared : Int32} {t_ploughed : Int32} {t_failed : Int32} {t_complained : Int32} {s_size : Nat → Int32} {s_complained : Nat → Int32} {s_clearings : Nat → Int32} {q_place : Nat → Int32} {q_target : Nat → Int32} {q_minutesLeft : Nat → Int32} {q_waiting : Nat → Int32} {q_orders : Nat → Int32} {q_count : Int32} (hTo : zTo tb t_time t_store t_rate t_force t_cleared t_ploughed t_failed t_complained s_lower s_higher s_kind s_size s_snow s_saltEnd s_complained s_clearings s_count q_place q_target q_minutesLeft q_waiting q_orders q_count m_s) (hOu : zOu b_counto b_capo b_byteso m_lined m_line) {K : Int32 → Int32 → (Nat → Int32) → Int32 → Int32 → (Nat → Int32) → (Nat → Int64) → Prop} (hK : ∀ (u1 : Int32) (u2 : Int32) (u3 : Nat → Int32) (u4 : Int32) (u5 : Int32) (u6 : Nat → Int32) (u7 : Nat → Int64), zOu u2 b_capo u3 u5 u6 → K u1 u2 u3 u4 u5 u6 u7) : wpL_c43 v1 t_time s_lower s_higher s_kind s_snow s_saltEnd s_count b_mlo b_counto b_capo b_byteso m_thrown m_lined m_s m_line o K := by
  obtain ⟨A, hAt, hT, hM⟩ := hTo
  obtain ⟨hI, ⟨t0, t3, t4, t5, t6, t7, t8, t9⟩, ⟨rfl, hl, hh, hk, hz, hsn, hse, hco⟩, ⟨rfl, q1, q2, q3, q4, q5⟩, hK9, C, hC, hC4⟩ := hT
  have hA := hI.1
  obtain ⟨rfl, n0, x0, hn0, rfl, rfl, hx0⟩ := hOu
  unfold wpL_c43 wpL_renderStreet wpX6_renderStreet wpX7_renderStreet wpX7_thrown
  by_cases j : ∃ i : Nat, i < A 1 ∧ v1 = nI i
  case neg =>
    refine k_hasN hA.1 j (br_m rfl ⟨rfl, m_isSN hM hA.1 j (br_m rfl ?_)⟩)
    unfold wpX7_renderStreet_L14
    exact m_yes (br_f (by decide) (z_noL (by decide) (hK _ _ _ _ _ _ _ ⟨rfl, n0, x0, hn0, rfl, rfl, hx0⟩)))
  obtain ⟨i, hi, rfl⟩ := j
  have g := hI.2.1 i hi
  have d1 := (@zdl_le i).2.2 (by omega)
  have d2 := zdl_1 (v := A (10 + 7 * i)) (by omega)
  have d3 := zdl_1 (v := A (11 + 7 * i)) (by omega)
  have d4 := (@zdl_le (A (14 + 7 * i))).2.1
  have hin : vp_in (nI i) 12 := vp_in_nI (by omega) (by omega)
  refine k_hasI hA.1 hi (br_n (by decide) (k_set0 (by omega) (by omega) (fun ml => ?_)))
  refine k_api (x := fun _ => 0) (by omega) (by omega) (by omega) zR_0 (fun b1 h1 => k_apc (c := 58) (by omega) (by omega) (by omega) h1 (fun b2 h2 => ⟨hin, ?_⟩))
  rw [nI_clamp (by omega), zg hl i hi]
  refine k_api (by omega) (by omega) (by omega) h2 (fun b3 h3 => k_apc (c := 45) (by omega) (by omega) (by omega) h3 (fun b4 h4 => ⟨hin, ?_⟩))
  rw [zg hh i hi]
  refine k_api (by omega) (by omega) (by omega) h4 (fun b5 h5 => ⟨hin, ?_⟩)
  rw [zg hk i hi]
  refine k_apc (by omega) (by omega) (by omega) h5 (fun b6 h6 => ⟨hin, ?_⟩)
  rw [zg hsn i hi]
  refine k_api (by omega) (by omega) (by omega) h6 (fun b7 h7 => k_cm (by omega) (by omega) h7 (fun b8 h8 => k_salt hI hse hi ?_))
  rw [t0]
  have mren : ∀ post : Int32 → Int32 → Int32 → (Nat → Int32) → Prop, (∀ l, A 0 < A (15 + 7 * i) → zR l (0 + zdl i + 1 + zdl (A (10 + 7 * i)) + 1 + zdl (A (11 + 7 * i)) + 1 + zdl (A (14 + 7 * i)) + 2 + 1) (zu (zu (zu (zap (zu (zap (zu (zap (zu (zap (fun _ => 0) 0 i) (0 + zdl i) 58) (0 + zdl i + 1) (A (10 + 7 * i))) (0 + zdl i + 1 + zdl (A (10 + 7 * i))) 45) (0 + zdl i + 1 + zdl (A (10 + 7 * i)) + 1) (A (11 + 7 * i))) (0 + zdl i + 1 + zdl (A (10 + 7 * i)) + 1 + zdl (A (11 + 7 * i))) (A (12 + 7 * i))) (0 + zdl i + 1 + zdl (A (10 + 7 * i)) + 1 + zdl (A (11 + 7 * i)) + 1) (A (14 + 7 * i))) (0 + zdl i + 1 + zdl (A (10 + 7 * i)) + 1 + zdl (A (11 + 7 * i)) + 1 + zdl (A (14 + 7 * i))) 99) (0 + zdl i + 1 + zdl (A (10 + 7 * i)) + 1 + zdl (A (11 + 7 * i)) + 1 + zdl (A (14 + 7 * i)) + 1) 109) (0 + zdl i + 1 + zdl (A (10 + 7 * i)) + 1 + zdl (A (11 + 7 * i)) + 1 + zdl (A (14 + 7 * i)) + 2) 42) → post (nI (0 + zdl i + 1 + zdl (A (10 + 7 * i)) + 1 + zdl (A (11 + 7 * i)) + 1 + zdl (A (14 + 7 * i)) + 2 + 1)) 0 (nI (0 + zdl i + 1 + zdl (A (10 + 7 * i)) + 1 + zdl (A (11 + 7 * i)) + 1 + zdl (A (14 + 7 * i)) + 2 + 1)) l) → (∀ l, ¬ A 0 < A (15 + 7 * i) → zR l (0 + zdl i + 1 + zdl (A (10 + 7 * i)) + 1 + zdl (A (11 + 7 * i)) + 1 + zdl (A (14 + 7 * i)) + 2) (zu (zu (zap (zu (zap (zu (zap (zu (zap (fun _ => 0) 0 i) (0 + zdl i) 58) (0 + zdl i + 1) (A (10 + 7 * i))) (0 + zdl i + 1 + zdl (A (10 + 7 * i))) 45) (0 + zdl i + 1 + zdl (A (10 + 7 * i)) + 1) (A (11 + 7 * i))) (0 + zdl i + 1 + zdl (A (10 + 7 * i)) + 1 + zdl (A (11 + 7 * i))) (A (12 + 7 * i))) (0 + zdl i + 1 + zdl (A (10 + 7 * i)) + 1 + zdl (A (11 + 7 * i)) + 1) (A (14 + 7 * i))) (0 + zdl i + 1 + zdl (A (10 + 7 * i)) + 1 + zdl (A (11 + 7 * i)) + 1 + zdl (A (14 + 7 * i))) 99) (0 + zdl i + 1 + zdl (A (10 + 7 * i)) + 1 + zdl (A (11 + 7 * i)) + 1 + zdl (A (14 + 7 * i)) + 1) 109) → post (nI (0 + zdl i + 1 + zdl (A (10 + 7 * i)) + 1 + zdl (A (11 + 7 * i)) + 1 + zdl (A (14 + 7 * i)) + 2)) 0 (nI (0 + zdl i + 1 + zdl (A (10 + 7 * i)) + 1 + zdl (A (11 + 7 * i)) + 1 + zdl (A (14 + 7 * i)) + 2)) l) → wpX7_isStreet (nI i) m_s (fun r1 => ((¬ r1 = 0 → wpX7_renderStreet_L14 (nI i) m_s post 0 m_thrown (nI n0) m_line) ∧ (r1 = 0 → wpX7_renderStreet_L14 (nI i) m_s post 1 m_thrown (nI n0) m_line))) := by
    intro post q1 q0
    refine m_isSI hM hA.1 hi (br_n (by decide) ?_)
    unfold wpX7_renderStreet_L14
    refine m_no (br_t rfl (m_num (n := 0) (x := fun _ => 0) (by omega) (by omega) zR_0 (fun l1 g1 => m_puts (by omega) g1 (c := 58) (by omega) rfl (fun l2 g2 => m_of hM i 0 rfl (by omega) ?_))))
    rw [show 10 + 7 * i + 0 = 10 + 7 * i by omega]
    refine m_num (by omega) (by omega) g2 (fun l3 g3 => m_puts (by omega) g3 (c := 45) (by omega) rfl (fun l4 g4 => m_of hM i 1 rfl (by omega) ?_))
    rw [show 10 + 7 * i + 1 = 11 + 7 * i by omega]
    refine m_num (by omega) (by omega) g4 (fun l5 g5 => m_of hM i 2 rfl (by omega) ?_)
    rw [show 10 + 7 * i + 2 = 12 + 7 * i by omega]
    refine m_puts (by omega) g5 (c := A (12 + 7 * i)) (by omega) rfl (fun l6 g6 => m_of hM i 4 rfl (by omega) ?_)
    rw [show 10 + 7 * i + 4 = 14 + 7 * i by omega]
    refine m_num (by omega) (by omega) g6 (fun l7 g7 => m_puts (by omega) g7 (c := 99) (by omega) rfl (fun l8 g8 => m_puts (by omega) g8 (c := 109) (by omega) rfl (fun l9 g9 => ?_)))
    exact m_salted hM (by omega) (by omega) g.2.2.2.2.2.2.2 (fun e => br_f (by decide) (m_puts (by omega) g9 (c := 42) (by omega) rfl (fun l10 g10 => q1 l10 e g10))) (fun e => br_t rfl (q0 l9 e g9))
  by_cases e : A 0 < A (15 + 7 * i)
  · refine br_f (fun q => by have := (z_sub_le (by omega) (by omega)).mp q; omega) (k_apc (c := 42) (by omega) (by omega) (by omega) h8 (fun b9 h9 => ?_))
    exact mren _ (fun l _ hl => z_okL (hK _ _ _ _ _ _ _ (z_ou (by omega) h9 hl))) (fun _ q => absurd e q)
  · refine br_t ((z_sub_le (by omega) (by omega)).mpr (by omega)) ?_
    exact mren _ (fun _ q => absurd q e) (fun l _ hl => z_okL (hK _ _ _ _ _ _ _ (z_ou (by omega) h8 hl)))
theorem pc44 {tb : Nat} (htb : tb + 36000 < 2 ^ 29) {v1 : Int32} {q_waiting : Nat → Int32} {q_orders : Nat → Int32} {q_count : Int32} {b_mlo : Int32} {b_counto : Int32} {b_capo : Nat} {b_byteso : Nat → Int32} {m_thrown : Int32} {m_lined : Int32} {m_s : Nat → Int32} {m_line : Nat → Int32} {o : Nat → Int64} {t_time : Int32} {t_store : Int32} {t_rate : Int32} {t_force : Int32} {t_cleared : Int32} {t_ploughed : Int32} {t_failed : Int32} {t_complained : Int32} {s_lower : Nat → Int32} {s_higher : Nat → Int32} {s_kind : Nat → Int32} {s_size : Nat → Int32} {s_snow : Nat → Int32} {s_saltEnd : Nat → Int32} {s_complained : Nat → Int32} {s_clearings : Nat → Int32} {s_count : Int32} {q_place : Nat → Int32} {q_target : Nat → Int32} {q_minutesLeft : Nat → Int32} (hTo : zTo tb t_time t_store t_rate t_force t_cleared t_ploughed t_failed t_complained s_lower s_higher s_kind s_size s_snow s_saltEnd s_complained s_clearings s_count q_place q_target q_minutesLeft q_waiting q_orders q_count m_s) (hOu : zOu b_counto b_capo b_byteso m_lined m_line) {K : Int32 → Int32 → (Nat → Int32) → Int32 → Int32 → (Nat → Int32) → (Nat → Int64) → Prop} (hK : ∀ (u1 : Int32) (u2 : Int32) (u3 : Nat → Int32) (u4 : Int32) (u5 : Int32) (u6 : Nat → Int32) (u7 : Nat → Int64), zOu u2 b_capo u3 u5 u6 → K u1 u2 u3 u4 u5 u6 u7) : wpL_c44 v1 q_waiting q_orders q_count b_mlo b_counto b_capo b_byteso m_thrown m_lined m_s m_line o K := by
  obtain ⟨A, hAt, hT, hM⟩ := hTo
  obtain ⟨hI, ⟨t0, t3, t4, t5, t6, t7, t8, t9⟩, ⟨rfl, hl, hh, hk, hz, hsn, hse, hco⟩, ⟨rfl, q1, q2, q3, q4, q5⟩, hK9, C, hC, hC4⟩ := hT
  have hA := hI.1
  obtain ⟨rfl, n0, x0, hn0, rfl, rfl, hx0⟩ := hOu
  unfold wpL_c44 wpL_renderQueue wpX6_renderQueue wpX7_renderQueue wpX7_thrown
  by_cases j1 : ∃ j : Nat, j < A 2 ∧ v1 = nI j
  case neg =>
    refine k_pasN hA.2.1 j1 (br_m rfl ⟨rfl, m_isPN hM hA.2.1 j1 (br_m rfl ?_)⟩)
    unfold wpX7_renderQueue_L14
    exact m_yes (br_f (by decide) (z_noL (by decide) (hK _ _ _ _ _ _ _ ⟨rfl, n0, x0, hn0, rfl, rfl, hx0⟩)))
  obtain ⟨j, hj, rfl⟩ := j1
  have g := zI_pl hI hj
  have g5 := g.2.2.2.1
  have gst : ∀ q : Nat, q < A (97 + 9 * j) → A (98 + 9 * j + q) < 12 := fun q hq => by have := g.2.2.2.2 q hq; omega
  have gle : ∀ k : Nat, k ≤ A (97 + 9 * j) → (zqt A j k).1 + 1 ≤ 3 * k ∨ (k = 0 ∧ (zqt A j k).1 = 0) := fun k hk => zqt_le k (fun q hq => gst q (by omega))
  have mren : ∀ post : Int32 → Int32 → Int32 → (Nat → Int32) → Prop, (∀ l, zR l (zqt A j (A (97 + 9 * j))).1 (zqt A j (A (97 + 9 * j))).2 → post (nI (zqt A j (A (97 + 9 * j))).1) 0 (nI (zqt A j (A (97 + 9 * j))).1) l) → wpX7_isPlough (nI j) m_s (fun r1 => ((¬ r1 = 0 → wpX7_renderQueue_L14 (nI j) m_s post 0 m_thrown (nI n0) m_line) ∧ (r1 = 0 → wpX7_renderQueue_L14 (nI j) m_s post 1 m_thrown (nI n0) m_line))) := by
    intro post hp
    refine m_isPI hM hA.2.1 hj (br_n (by decide) ?_)
    unfold wpX7_renderQueue_L14
    refine m_no (br_t rfl ?_)
    refine pk_loop (fun n k (v : Int32 × (Nat → Int32)) => wpX7_renderQueue_L30 (nI j) m_s 0 post n (nI k) v.1 v.2) (fun k v => v.1 = nI (zqt A j k).1 ∧ zR v.2 (zqt A j k).1 (zqt A j k).2) (A (97 + 9 * j)) 0 (0, m_line) (Nat.zero_le _) ⟨rfl, zR_0⟩ ?_ ?_
    · rintro n ⟨c, l⟩ ⟨hc, hl⟩
      dsimp only at hc hl
      subst hc
      refine m_ofP hM j 3 rfl (by omega) ?_
      rw [show 94 + 9 * j + 3 = 97 + 9 * j by omega]
      exact br_t (nI_le (Nat.le_refl _) (by omega)) (hp l hl)
    · rintro n k ⟨c, l⟩ hk ⟨hc, hl⟩ ih
      dsimp only at hc hl
      subst hc
      have hlk := gle k (by omega)
      have hst := gst k hk
      have hd := (@zdl_le (A (98 + 9 * j + k))).2.2 (by omega)
      refine m_ofP hM j 3 rfl (by omega) ?_
      rw [show 94 + 9 * j + 3 = 97 + 9 * j by omega]
      refine br_f (nI_ge hk (by omega)) ?_
      by_cases e : k = 0
      · have ez : zqt A j (k + 1) = ((zqt A j k).1 + zdl (A (98 + 9 * j + k)), zap (zqt A j k).2 (zqt A j k).1 (A (98 + 9 * j + k))) := if_pos e
        refine br_t (by rw [e]; decide) ?_
        unfold wpX7_renderQueue_L50
        refine m_ofP hM j (4 + k) (nI_add 4 k) (by omega) ?_
        rw [show 94 + 9 * j + (4 + k) = 98 + 9 * j + k by omega]
        refine m_num (by omega) (by omega) hl (fun l1 g1 => ?_)
        rw [nI_1]
        exact ih (_, l1) (by rw [ez]; exact ⟨rfl, g1⟩)
      · have ez : zqt A j (k + 1) = ((zqt A j k).1 + 1 + zdl (A (98 + 9 * j + k)), zap (zu (zqt A j k).2 (zqt A j k).1 44) ((zqt A j k).1 + 1) (A (98 + 9 * j + k))) := if_neg e
        refine br_f (nI_nle (by omega) (by omega)) (m_puts (by omega) hl (c := 44) (by omega) rfl (fun l2 g2 => ?_))
        unfold wpX7_renderQueue_L50
        refine m_ofP hM j (4 + k) (nI_add 4 k) (by omega) ?_
        rw [show 94 + 9 * j + (4 + k) = 98 + 9 * j + k by omega]
        refine m_num (by omega) (by omega) g2 (fun l1 g1 => ?_)
        rw [nI_1]
        exact ih (_, l1) (by rw [ez]; exact ⟨rfl, g1⟩)
  refine k_pasI hA.2.1 hj (br_n (by decide) (k_set0 (by omega) (by omega) (fun ml => ?_)))
  refine pk_loop (fun n k (v : Int32 × (Nat → Int32)) => wpX6_renderQueue_L36 (nI j) q_waiting q_orders (nI (A 2)) 16 ml _ _ n (nI k) v.1 v.2) (fun k v => v.1 = nI (zqt A j k).1 ∧ zR v.2 (zqt A j k).1 (zqt A j k).2) (A (97 + 9 * j)) 0 (nI 0, b_byteso) (Nat.zero_le _) ⟨rfl, zR_0⟩ ?_ ?_
  · rintro n ⟨c, b⟩ ⟨hc, hb⟩
    dsimp only at hc hb
    subst hc
    refine ⟨vp_in_nI (by omega) (by omega), ?_⟩
    rw [nI_clamp (by omega), zg q4 j hj]
    have hlk := gle _ (Nat.le_refl _)
    refine br_t (nI_le (Nat.le_refl _) (by omega)) ?_
    exact mren _ (fun l hl => z_okL (hK _ _ _ _ _ _ _ (z_ou (by omega) hb hl)))
  · rintro n k ⟨c, b⟩ hk ⟨hc, hb⟩ ih
    dsimp only at hc hb
    subst hc
    have hlk := gle k (by omega)
    have hst := gst k hk
    have hd := (@zdl_le (A (98 + 9 * j + k))).2.2 (by omega)
    refine ⟨vp_in_nI (by omega) (by omega), ?_⟩
    rw [nI_clamp (by omega), zg q4 j hj]
    refine br_f (nI_ge hk (by omega)) ?_
    have hrest : ∀ (N : Nat) (X : Nat → Nat) (b2 : Nat → Int32) (K3 : Int32 → Int32 → (Nat → Int32) → Prop) (P9 : Int32 → Int32 → Int32 → (Nat → Int32) → Prop) (X9 : String → Int32 → Int32 → (Nat → Int32) → Prop), N + 2 ≤ 16 → zR b2 N X → (∀ b3, zR b3 (N + zdl (A (98 + 9 * j + k))) (zap X N (A (98 + 9 * j + k))) → K3 (nI (k + 1)) (nI (N + zdl (A (98 + 9 * j + k)))) b3) → wpX6_renderQueue_L60 (nI j) q_waiting q_orders (nI (A 2)) ml 16 K3 P9 X9 (nI k) (nI N) b2 := by
      intro N X b2 K3 P9 X9 hN hb2 h3
      unfold wpX6_renderQueue_L60
      refine k_waitAt hI q4 q5 hj (fun k2 hk2 e2 => ?_) (fun q => absurd ⟨k, hk, rfl⟩ q)
      have ek : k2 = k := ((nI_eq (by omega) (by omega)).mp e2).symm
      subst ek
      refine k_api (by omega) (by omega) (by omega) hb2 (fun b3 g3 => ?_)
      rw [nI_1]
      exact h3 b3 g3
    by_cases e : k = 0
    · have ez : zqt A j (k + 1) = ((zqt A j k).1 + zdl (A (98 + 9 * j + k)), zap (zqt A j k).2 (zqt A j k).1 (A (98 + 9 * j + k))) := if_pos e
      exact br_t (by rw [e]; decide) (hrest _ _ _ _ _ _ (by omega) hb (fun b3 g3 => ih (_, b3) (by rw [ez]; exact ⟨rfl, g3⟩)))
    · have ez : zqt A j (k + 1) = ((zqt A j k).1 + 1 + zdl (A (98 + 9 * j + k)), zap (zu (zqt A j k).2 (zqt A j k).1 44) ((zqt A j k).1 + 1) (A (98 + 9 * j + k))) := if_neg e
      exact br_f (nI_nle (by omega) (by omega)) (k_apc (c := 44) (by omega) (by omega) (by omega) hb (fun b2 g2 => hrest _ _ _ _ _ _ (by omega) g2 (fun b3 g3 => ih (_, b3) (by rw [ez]; exact ⟨rfl, g3⟩))))
theorem pc45 {tb : Nat} (htb : tb + 36000 < 2 ^ 29) {v1 : Int32} {b_counto : Int32} {b_capo : Nat} {b_byteso : Nat → Int32} {m_thrown : Int32} {m_lined : Int32} {m_line : Nat → Int32} {o : Nat → Int64} (hOu : zOu b_counto b_capo b_byteso m_lined m_line) {K : Int32 → (Nat → Int64) → Prop} (hK : ∀ (u1 : Int32) (u2 : Nat → Int64), K u1 u2) : wpL_c45 v1 b_counto b_capo b_byteso m_thrown m_lined m_line o K := by
  obtain ⟨rfl, n, x, hn, rfl, rfl, hx⟩ := hOu
  unfold wpL_c45 wpL_outputAt wpX6_outputAt wpX7_outputAt wpX7_thrown
  by_cases j : ∃ i : Nat, i < n ∧ v1 = nI i
  · obtain ⟨i, hi, rfl⟩ := j
    obtain ⟨c128, cb, cl⟩ := hx i hi
    refine br_f (nI_pos (by omega)) (br_t (nI_lt hi (by omega)) (k_charAt hn hi (by omega) cb c128 ⟨(pk_charN (by omega)).1, m_inC (by omega) (fun k hk e => br_n (by decide) ?_) (fun q => absurd ⟨i, hi, rfl⟩ q)⟩))
    unfold wpX7_outputAt_L20
    refine m_no (br_t rfl ⟨vp_in_nI (by omega) (by omega), ?_⟩)
    rw [nI_clamp (by omega), cl, z_c16 (by omega)]
    exact ⟨(pk_charN (by omega)).1, z_okL (hK _ _)⟩
  · have mno : ∀ post : Int32 → Int32 → Prop, post 0 1 → wpX7_isIn v1 0 (nI n - 1) (fun r1 => ((¬ r1 = 0 → wpX7_outputAt_L20 v1 (nI n) m_line post 0 m_thrown) ∧ (r1 = 0 → wpX7_outputAt_L20 v1 (nI n) m_line post 1 m_thrown))) := by
      intro post hp
      refine m_inC (by omega) (fun k hk e => absurd ⟨k, hk, e⟩ j) (fun _ => br_m rfl ?_)
      unfold wpX7_outputAt_L20
      exact m_yes (br_f (by decide) hp)
    rcases z_in (n := n) (by omega) j with q | q
    · exact br_t q ⟨rfl, mno _ (z_noL (by decide) (hK _ _))⟩
    · refine ⟨fun _ => ⟨rfl, mno _ (z_noL (by decide) (hK _ _))⟩, fun _ => br_f (fun q2 => ?_) ⟨rfl, mno _ (z_noL (by decide) (hK _ _))⟩⟩
      rw [Int32.le_iff_toInt_le] at q
      rw [Int32.lt_iff_toInt_lt] at q2
      omega
theorem pc46 {tb : Nat} (htb : tb + 36000 < 2 ^ 29) {v1 : Int32} {b_countt : Int32} {b_att : Nat → Nat} {b_capt : Nat} {b_bytest : Nat → Int32} {m_thrown : Int32} {m_taped : Int32} {m_tape : Nat → Int32} {o : Nat → Int64} (hSc : zSc b_countt b_capt b_bytest m_taped m_tape) {K : Int32 → (Nat → Nat) → Nat → (Nat → Int32) → Int32 → Int32 → (Nat → Int32) → (Nat → Int64) → Prop} (hK : ∀ (u1 : Int32) (u2 : Nat → Nat) (u3 : Nat) (u4 : Nat → Int32) (u5 : Int32) (u6 : Int32) (u7 : Nat → Int32) (u8 : Nat → Int64), zSc u1 u3 u4 u6 u7 → K u1 u2 u3 u4 u5 u6 u7 u8) : wpL_c46 v1 b_countt b_att b_capt b_bytest m_thrown m_taped m_tape o K := by
  obtain ⟨hcap, hby, n, x, hn, hnc, rfl, rfl, hx⟩ := hSc
  unfold wpL_c46 wpL_type wpX6_type wpX7_type wpX7_thrown
  obtain ⟨c, ec⟩ : ∃ q, q = v1.toBitVec.toNat % 65536 := ⟨_, rfl⟩
  have hc16 : c < 65536 := by omega
  rw [pk_char, ← ec]
  by_cases j : 32 ≤ c ∧ c ≤ 126
  case neg =>
    have mno : ∀ post : Int32 → Int32 → Int32 → (Nat → Int32) → Prop, post 0 1 (nI n) m_tape → wpX7_isIn (nI c) 32 126 (fun r1 => ((¬ r1 = 0 → wpX7_type_L17 (nI c) post 0 m_thrown (nI n) m_tape) ∧ (r1 = 0 → wpX7_type_L17 (nI c) post 1 m_thrown (nI n) m_tape))) := by
      intro post hp
      refine m_inN (a := 32) (b := 126) (by omega) (by omega) (fun ⟨k, h1, h2, e⟩ => j ?_) (br_m rfl ?_)
      · have ek : c = k := (nI_eq (by omega) (by omega)).mp e
        omega
      · unfold wpX7_type_L17
        exact m_yes (br_n (by decide) hp)
    by_cases h1 : c < 32
    · exact br_t (nI_lt (b := 32) h1 (by omega)) (Or.inl ⟨rfl, mno _ (z_noL (by decide) (hK _ _ _ _ _ _ _ _ ⟨hcap, hby, n, x, hn, hnc, rfl, rfl, hx⟩))⟩)
    · exact br_f (nI_nlt (b := 32) (by omega) (by omega)) (br_f (nI_ge (a := 126) (b := c) (by omega) (by omega)) (Or.inl ⟨rfl, mno _ (z_noL (by decide) (hK _ _ _ _ _ _ _ _ ⟨hcap, hby, n, x, hn, hnc, rfl, rfl, hx⟩))⟩))
  have mok : ∀ post : Int32 → Int32 → Int32 → (Nat → Int32) → Prop, ((¬ nI n = 60 → wpX7_type_L39 (nI c) post 0 0 (nI n) m_tape) ∧ (nI n = 60 → wpX7_type_L39 (nI c) post 1 0 (nI n) m_tape)) → wpX7_isIn (nI c) 32 126 (fun r1 => ((¬ r1 = 0 → wpX7_type_L17 (nI c) post 0 m_thrown (nI n) m_tape) ∧ (r1 = 0 → wpX7_type_L17 (nI c) post 1 m_thrown (nI n) m_tape))) := by
    intro post hp
    refine m_inI (a := 32) (b := 126) (by omega) (by omega) j.1 j.2 (br_n (by decide) ?_)
    unfold wpX7_type_L17
    exact m_no (br_m rfl hp)
  refine br_f (nI_nlt (b := 32) j.1 (by omega)) (br_t (nI_le (b := 126) j.2 (by omega)) ?_)
  by_cases h60 : n = 60
  · subst h60
    refine br_f (by decide) (Or.inr ⟨rfl, mok _ (br_m rfl ?_)⟩)
    unfold wpX7_type_L39
    exact m_yes (br_f (by decide) (z_noL (by decide) (hK _ _ _ _ _ _ _ _ ⟨hcap, hby, 60, x, hn, hnc, rfl, rfl, hx⟩)))
  · refine br_t (nI_lt (b := 60) (by omega) (by omega)) ?_
    have mfin : ∀ post : Int32 → Int32 → Int32 → (Nat → Int32) → Prop, post (nI (n + 1)) 0 (nI (n + 1)) (upd m_tape n (nI c)) → wpX7_isIn (nI c) 32 126 (fun r1 => ((¬ r1 = 0 → wpX7_type_L17 (nI c) post 0 m_thrown (nI n) m_tape) ∧ (r1 = 0 → wpX7_type_L17 (nI c) post 1 m_thrown (nI n) m_tape))) := by
      intro post hp
      refine mok _ (br_n (fun q => h60 ((nI_eq (b := 60) (by omega) (by omega)).mp q)) ?_)
      unfold wpX7_type_L39
      refine m_no (br_t rfl ⟨vp_in_nI (by omega) (by omega), ?_⟩)
      rw [nI_clamp (by omega), nI_1]
      exact hp
    have hfin : ∀ (cap : Nat) (b : Nat → Int32), (cap = 16 ∨ cap = 34 ∨ cap = 70) → n + 1 ≤ cap → (∀ i : Nat, i < cap → fits .byte (.int (b i)) = true) → (∀ i : Nat, i < n → b i = nI (x i)) → zSc (nI (n + 1)) cap (upd b n (nI c)) (nI (n + 1)) (upd m_tape n (nI c)) := by
      intro cap b h1 h2 h3 h4
      refine ⟨h1, fun i hi => ?_, n + 1, zu x n c, by omega, h2, rfl, rfl, fun i hi => ?_⟩
      · unfold upd
        split
        · have := pk_fb (nI c)
          rw [z_by8 c (by omega)] at this
          exact this
        · exact h3 i hi
      · by_cases e : i = n
        · rw [e, zu_s, pk_us, pk_us]
          exact ⟨j.1, j.2, rfl, rfl⟩
        · obtain ⟨a1, a2, a3, a4⟩ := hx i (by omega)
          rw [zu_n e, pk_un e, pk_un e]
          exact ⟨a1, a2, h4 i (by omega), a4⟩
    unfold wpJ4_append_cf468_g wpJ5_append_3fe6f_g wpJ5_isLatin1_aae02 wpJ1_canEncode_fc78d
    refine ⟨n + 1, nI_1 n, by omega, by omega, hby, fun hq a => ?_, fun hq a => ?_⟩
    · refine br_f (by decide) (br_f (nI_nlt (a := 255) (by omega) (by omega)) (br_f (by decide) ⟨vp_in_nI (by omega) (by omega), ?_⟩))
      rw [nI_clamp (by omega), z_by8 c (by omega), z_nby (by omega), nI_1]
      exact mfin _ (z_okL (hK _ _ _ _ _ _ _ _ (hfin _ _ hcap hq hby (fun i hi => (hx i hi).2.2.1))))
    · refine br_f (by decide) (br_f (nI_nlt (a := 255) (by omega) (by omega)) (br_f (by decide) ⟨vp_in_nI (by omega) (by omega), ?_⟩))
      rw [nI_clamp (by omega), z_by8 c (by omega), z_nby (by omega), nI_1]
      refine mfin _ (z_okL (hK _ _ _ _ _ _ _ _ (hfin _ _ (by omega) (by omega) (fun i hi => ?_) (fun i hi => ?_))))
      · by_cases e : i < b_capt
        · rw [pk_cpy_in (Nat.zero_le _) (by omega), show 0 + (i - 0) = i by omega]
          exact hby i e
        · rw [pk_cpy_out (Or.inr (by omega))]
          rfl
      · rw [pk_cpy_in (Nat.zero_le _) (by omega), show 0 + (i - 0) = i by omega]
        exact (hx i hi).2.2.1
