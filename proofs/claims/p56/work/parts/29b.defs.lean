/-! the predicates of the law and of its texts: by program (wip/p56/gen/split56.py) -/
def zush (x y : Int32) : Int32 := (x.toUInt32 >>> (y.toUInt32 &&& Int32.toUInt32 31)).toInt32
def zd_up (f : Nat → Nat → Int32) (i j : Nat) (x : Int32) : Nat → Nat → Int32 := fun r => if r = i then upd (f i) j x else f r
def zZ : Nat → Int32 := fun _ => 0
def zTT0 : TT := (0, 0, 0, 0, 0, 0, 0, 0, (fun _ => 0), (fun _ => 0), (fun _ => 0), (fun _ => 0), (fun _ => 0), (fun _ => 0), (fun _ => 0), (fun _ => 0), 0, (fun _ => 0), (fun _ => 0), (fun _ => 0), (fun _ => 0), (fun _ => 0), 0)
/-- a new dispatcher's numbers -/
def zDV0 (b1 b2 : Nat → Nat) : DV := ((0, -1, -1, (fun _ => 0), (fun _ => 0), (fun _ => 0)), zTT0, zTT0, zTT0, (0, 0, fun _ => zTT0), ((fun _ => 0), 0, 0, 0, 0, b1, 16, (fun _ => 0), 0, 0, b2, 16, (fun _ => 0)))
def wpL_addStreet (x1 : Int32) (x2 : Int32) (x3 : Int32) (x4 : Int32) (V : DV) (post : Int32 → DV → Prop) : Prop :=
  wpP_addStreet x1 x2 x3 x4 V post (fun E v => (E = "java/lang/IndexOutOfBoundsException" ∧ post (-900001) v) ∨ (E = "java/lang/IllegalArgumentException" ∧ post (-900002) v) ∨ (E = "java/lang/IllegalStateException" ∧ post (-900003) v))
def wpL_addPlough (x1 : Int32) (V : DV) (post : Int32 → DV → Prop) : Prop :=
  wpP_addPlough x1 V post (fun E v => (E = "java/lang/IndexOutOfBoundsException" ∧ post (-900001) v) ∨ (E = "java/lang/IllegalStateException" ∧ post (-900002) v))
def wpL_order (x1 : Int32) (x2 : Int32) (V : DV) (post : Int32 → DV → Prop) : Prop :=
  wpP_order x1 x2 V post (fun E v => (E = "java/lang/IndexOutOfBoundsException" ∧ post (-900001) v) ∨ (E = "java/lang/IllegalStateException" ∧ post (-900002) v))
def wpL_cancelOrder (x1 : Int32) (V : DV) (post : Int32 → DV → Prop) : Prop :=
  wpP_cancelOrder x1 V post (fun E v => (E = "java/lang/IndexOutOfBoundsException" ∧ post (-900001) v) ∨ (E = "java/util/NoSuchElementException" ∧ post (-900002) v))
def wpL_salt (x1 : Int32) (V : DV) (post : Int32 → DV → Prop) : Prop :=
  wpP_salt x1 V post (fun E v => (E = "java/lang/IndexOutOfBoundsException" ∧ post (-900001) v) ∨ (E = "java/lang/UnsupportedOperationException" ∧ post (-900002) v) ∨ (E = "java/lang/IllegalStateException" ∧ post (-900003) v))
def wpL_loadSalt (x1 : Int32) (V : DV) (post : Int32 → DV → Prop) : Prop :=
  wpP_loadSalt x1 V post (fun E v => (E = "java/lang/IllegalArgumentException" ∧ post (-900001) v) ∨ (E = "java/lang/UnsupportedOperationException" ∧ post (-900002) v))
def wpL_setSnowfall (x1 : Int32) (V : DV) (post : Int32 → DV → Prop) : Prop :=
  wpP_setSnowfall x1 V post (fun E v => (E = "java/lang/IllegalArgumentException" ∧ post (-900001) v))
def wpL_setWind (x1 : Int32) (V : DV) (post : Int32 → DV → Prop) : Prop :=
  wpP_setWind x1 V post (fun E v => (E = "java/lang/IllegalArgumentException" ∧ post (-900001) v))
def wpL_advance (x1 : Int32) (V : DV) (post : Int32 → DV → Prop) : Prop :=
  wpP_advance x1 V post (fun E v => (E = "java/lang/IllegalArgumentException" ∧ post (-900001) v))
def wpL_saltMinutes (x1 : Int32) (V : DV) (post : Int32 → DV → Prop) : Prop :=
  wpP_saltMinutes x1 V post (fun E v => (E = "java/lang/IndexOutOfBoundsException" ∧ post (-900001) v) ∨ (E = "java/util/NoSuchElementException" ∧ post (-900002) v))
def wpL_distance (x1 : Int32) (x2 : Int32) (V : DV) (post : Int32 → DV → Prop) : Prop :=
  wpP_distance x1 x2 V post (fun E v => (E = "java/lang/IndexOutOfBoundsException" ∧ post (-900001) v) ∨ (E = "java/util/NoSuchElementException" ∧ post (-900002) v))
def wpL_distanceByJunctions (x1 : Int32) (x2 : Int32) (V : DV) (post : Int32 → DV → Prop) : Prop :=
  wpP_distanceByJunctions x1 x2 V post (fun E v => (E = "java/lang/IndexOutOfBoundsException" ∧ post (-900001) v) ∨ (E = "java/util/NoSuchElementException" ∧ post (-900002) v))
def wpL_streetByUrgency (x1 : Int32) (V : DV) (post : Int32 → DV → Prop) : Prop :=
  wpP_streetByUrgency x1 V post (fun E v => (E = "java/util/NoSuchElementException" ∧ post (-900001) v))
def wpL_currentStreet (x1 : Int32) (V : DV) (post : Int32 → DV → Prop) : Prop :=
  wpP_currentStreet x1 V post (fun E v => (E = "java/lang/IndexOutOfBoundsException" ∧ post (-900001) v) ∨ (E = "java/util/NoSuchElementException" ∧ post (-900002) v))
def wpL_queuedStreet (x1 : Int32) (x2 : Int32) (V : DV) (post : Int32 → DV → Prop) : Prop :=
  wpP_queuedStreet x1 x2 V post (fun E v => (E = "java/lang/IndexOutOfBoundsException" ∧ post (-900001) v) ∨ (E = "java/util/NoSuchElementException" ∧ post (-900002) v))
def wpL_orderMinutes (x1 : Int32) (x2 : Int32) (V : DV) (post : Int32 → DV → Prop) : Prop :=
  wpP_orderMinutes x1 x2 V post (fun E v => (E = "java/lang/IndexOutOfBoundsException" ∧ post (-900001) v) ∨ (E = "java/util/NoSuchElementException" ∧ post (-900002) v))
def wpL_minutesUntilCleared (x1 : Int32) (V : DV) (post : Int32 → DV → Prop) : Prop :=
  wpP_minutesUntilCleared x1 V post (fun E v => (E = "java/lang/IndexOutOfBoundsException" ∧ post (-900001) v) ∨ (E = "java/util/NoSuchElementException" ∧ post (-900002) v))
def wpL_depthAfter (x1 : Int32) (x2 : Int32) (V : DV) (post : Int32 → DV → Prop) : Prop :=
  wpP_depthAfter x1 x2 V post (fun E v => (E = "java/lang/IndexOutOfBoundsException" ∧ post (-900001) v) ∨ (E = "java/lang/IllegalArgumentException" ∧ post (-900002) v))
def wpL_runScript (V : DV) (post : Int32 → DV → Prop) : Prop :=
  wpP_runScript V post (fun E v => (E = "java/lang/IllegalArgumentException" ∧ post (-900001) v) ∨ (E = "java/lang/IllegalStateException" ∧ post (-900002) v))
def wpL_undo (V : DV) (post : Int32 → DV → Prop) : Prop :=
  wpP_undo V post (fun E v => (E = "java/util/NoSuchElementException" ∧ post (-900001) v))
def wpL_restore (V : DV) (post : Int32 → DV → Prop) : Prop :=
  wpP_restore V post (fun E v => (E = "java/lang/IllegalStateException" ∧ post (-900001) v))
def wpJ5_append_cf1ce_g (su_len : Nat) (su_txt : Nat → Int32) (b_count : Int32) (b_at : Nat → Nat) (b_cap : Nat) (b_bytes : Nat → Int32) (post : Int32 → (Nat → Nat) → Nat → (Nat → Int32) → Prop) : Prop :=
  wpJ0_length_8abf5 su_len (fun r1 => wpJ5_ensureCapacityInternal_d00df_g (b_count + r1) b_cap b_bytes (fun b_at_v2 b_cap_v2 b_bytes_v2 => wpJ5_putStringAt_47b60 b_count su_len su_txt b_cap_v2 b_bytes_v2 (fun b_bytes_v3 => post (b_count + r1) b_at_v2 b_cap_v2 b_bytes_v3)))
def wpJ4_append_15ec4_g (su_len : Nat) (su_txt : Nat → Int32) (b_count : Int32) (b_at : Nat → Nat) (b_cap : Nat) (b_bytes : Nat → Int32) (post : Int32 → (Nat → Nat) → Nat → (Nat → Int32) → Prop) : Prop :=
  wpJ5_append_cf1ce_g su_len su_txt b_count b_at b_cap b_bytes (fun b_count_v1 b_at_v1 b_cap_v1 b_bytes_v1 => post b_count_v1 b_at_v1 b_cap_v1 b_bytes_v1)
def wpJ5_append_c97b9_g (x1 : Int32) (b_count : Int32) (b_at : Nat → Nat) (b_cap : Nat) (b_bytes : Nat → Int32) (post : Int32 → (Nat → Nat) → Nat → (Nat → Int32) → Prop) : Prop :=
  wpJ6_stringSize_0f7a4 x1 (fun r1 => wpJ5_ensureCapacityInternal_d00df_g (b_count + r1) b_cap b_bytes (fun b_at_v2 b_cap_v2 b_bytes_v2 => wpJ5_isLatin1_aae02 (fun r3 => ((r3 = 0 → False) ∧
  (¬ r3 = 0 → wpJ6_getChars_ba4f3 x1 (b_count + r1) b_cap_v2 b_bytes_v2 (fun r4 b_bytes_v4 => post (b_count + r1) b_at_v2 b_cap_v2 b_bytes_v4))))))
def wpJ4_append_bf812_g (x1 : Int32) (b_count : Int32) (b_at : Nat → Nat) (b_cap : Nat) (b_bytes : Nat → Int32) (post : Int32 → (Nat → Nat) → Nat → (Nat → Int32) → Prop) : Prop :=
  wpJ5_append_c97b9_g x1 b_count b_at b_cap b_bytes (fun b_count_v1 b_at_v1 b_cap_v1 b_bytes_v1 => post b_count_v1 b_at_v1 b_cap_v1 b_bytes_v1)
def wpJ0_coder_7d493_w (post : Int32 → Prop) : Prop :=
  post 0
def wpJ0_length_8abf5_w (b_caps : Nat) (post : Int32 → Prop) : Prop :=
  wpJ0_coder_7d493_w (fun r1 => post ((nI b_caps) >>> (r1 &&& 31)))
def wpJ5_inflateIfNeededFor_a7421_w (post : Prop) : Prop :=
  wpJ0_coder_7d493_w (fun r1 => ((0 = r1 → post) ∧
  (¬ 0 = r1 → False)))
def wpJ0_getBytes_840e7_w (x2 : Int32) (x3 : Int32) (b_caps : Nat) (b_bytess : Nat → Int32) (b_cap : Nat) (b_bytes : Nat → Int32) (post : (Nat → Int32) → Prop) : Prop :=
  wpJ0_coder_7d493_w (fun r1 => ((¬ r1 = x3 → False) ∧
  (r1 = x3 → (¬ (x2 <<< (x3 &&& 31)) < 0 ∧
  (¬ (nI b_caps) < 0 ∧
  ((0 : Int32).toNatClampNeg + (nI b_caps).toNatClampNeg ≤ b_caps ∧
  ((x2 <<< (x3 &&& 31)).toNatClampNeg + (nI b_caps).toNatClampNeg ≤ b_cap ∧
  ((∀ i, i < (nI b_caps).toNatClampNeg → fits .byte (.int (b_bytess ((0 : Int32).toNatClampNeg + i))) = true) ∧
  post (va_cpy b_bytess b_bytes (0 : Int32).toNatClampNeg (x2 <<< (x3 &&& 31)).toNatClampNeg (nI b_caps).toNatClampNeg)))))))))
def wpJ5_putStringAt_47b60_w (x1 : Int32) (b_cap : Nat) (b_bytes : Nat → Int32) (b_caps : Nat) (b_bytess : Nat → Int32) (post : (Nat → Int32) → Prop) : Prop :=
  wpJ5_inflateIfNeededFor_a7421_w (wpJ0_getBytes_840e7_w x1 0 b_caps b_bytess b_cap b_bytes (fun b_bytes_v2 => post b_bytes_v2))
def wpJ5_append_cf1ce_gw (b_count : Int32) (b_at : Nat → Nat) (b_cap : Nat) (b_bytes : Nat → Int32) (b_caps : Nat) (b_bytess : Nat → Int32) (post : Int32 → (Nat → Nat) → Nat → (Nat → Int32) → Prop) : Prop :=
  wpJ0_length_8abf5_w b_caps (fun r1 => wpJ5_ensureCapacityInternal_d00df_g (b_count + r1) b_cap b_bytes (fun b_at_v2 b_cap_v2 b_bytes_v2 => wpJ5_putStringAt_47b60_w b_count b_cap_v2 b_bytes_v2 b_caps b_bytess (fun b_bytes_v3 => post (b_count + r1) b_at_v2 b_cap_v2 b_bytes_v3)))
def wpJ4_append_15ec4_gw (b_count : Int32) (b_at : Nat → Nat) (b_cap : Nat) (b_bytes : Nat → Int32) (b_caps : Nat) (b_bytess : Nat → Int32) (post : Int32 → (Nat → Nat) → Nat → (Nat → Int32) → Prop) : Prop :=
  wpJ5_append_cf1ce_gw b_count b_at b_cap b_bytes b_caps b_bytess (fun b_count_v1 b_at_v1 b_cap_v1 b_bytes_v1 => post b_count_v1 b_at_v1 b_cap_v1 b_bytes_v1)
def wpJ0_isLatin1_aae02_w (post : Int32 → Prop) : Prop :=
  post 1
def wpJ1_charAt_3b067_w (x1 : Int32) (b_caps : Nat) (b_bytess : Nat → Int32) (post : Int32 → Prop) : Prop :=
  wpJ0_checkIndex_df160 x1 (nI b_caps) ((vp_in x1 b_caps ∧
  (narrow .char (.int ((((b_bytess x1.toNatClampNeg) &&& 255).toUInt32 % 65536).toInt32)) = .int ((((b_bytess x1.toNatClampNeg) &&& 255).toUInt32 % 65536).toInt32) ∧
  post ((((b_bytess x1.toNatClampNeg) &&& 255).toUInt32 % 65536).toInt32))))
def wpJ0_charAt_5068e_w (x1 : Int32) (b_caps : Nat) (b_bytess : Nat → Int32) (post : Int32 → Prop) : Prop :=
  wpJ0_isLatin1_aae02_w (fun r1 => ((r1 = 0 → False) ∧
  (¬ r1 = 0 → wpJ1_charAt_3b067_w x1 b_caps b_bytess (fun r2 => (narrow .char (.int r2) = .int r2 ∧
  post r2)))))
def wpJ7_checkLength_df160 (x0 : Int32) (x1 : Int32) (post : Prop) : Prop :=
  ((x0 ≤ x1 → post) ∧
  (¬ x0 ≤ x1 → False))
/-- what a text must be, to be made out of a builder -/
def wpS_str (c : Int32) (n : Nat) (f : Nat → Int32) (post : (Nat → Nat) → (Nat → Nat) → Nat → (Nat → Int32) → Prop) : Prop := ∃ k : Nat, c = nI k ∧ k ≤ n ∧ n ≤ 200 ∧ (∀ i, i < n → fits .byte (.int (f i)) = true) ∧ ∀ (a at_ : Nat → Nat) (f1 : Nat → Int32), (∀ i, i < k → f1 i = f i) → post a at_ k f1
def wpL_cell_L15 (z_len : Nat) (z_txt : Nat → Int32) (post : Int32 → Prop) (z0_15 : Int32) (z1_15 : Int32) (x1_15 : Int32) : Prop :=
  post (((((z0_15 * (z1_15 + (1009 * x1_15))) + 12345) ^^^ (zush ((z0_15 * (z1_15 + (1009 * x1_15))) + 12345) (13 : Int32))) * 1103515245) ^^^ (zush ((((z0_15 * (z1_15 + (1009 * x1_15))) + 12345) ^^^ (zush ((z0_15 * (z1_15 + (1009 * x1_15))) + 12345) (13 : Int32))) * 1103515245) (16 : Int32)))
def wpL_cell (z_len : Nat) (z_txt : Nat → Int32) (x1 : Int32) (post : Int32 → Prop) : Prop :=
  (((nI z_len) ≤ x1 → wpL_cell_L15 z_len z_txt post 69069 0 x1) ∧
  (¬ (nI z_len) ≤ x1 → (vp_in x1 z_len ∧
  wpL_cell_L15 z_len z_txt post 69069 (z_txt x1.toNatClampNeg) x1)))
def wpL_in (z_len : Nat) (z_txt : Nat → Int32) (x1 : Int32) (x2 : Int32) (post : Int32 → Prop) : Prop :=
  wpL_cell z_len z_txt x1 (fun r1 => (¬ x2 = 0 ∧
  post ((r1 &&& 2147483647) - (r1 &&& 2147483647) / x2 * x2)))
def wpL_areAlike_L2 (f_an0 : Nat → Int32) (f_an1 : Nat → Int32) (post : Int32 → Prop) : Nat → Int32 → Prop
  | 0, _ => False
  | n_2 + 1, x2_2 =>
  ((160 ≤ x2_2 → post 1) ∧
  (¬ 160 ≤ x2_2 → (vp_in x2_2 160 ∧
  (vp_in x2_2 160 ∧
  (((f_an0 x2_2.toNatClampNeg) = (f_an1 x2_2.toNatClampNeg) → wpL_areAlike_L2 f_an0 f_an1 post n_2 (x2_2 + 1)) ∧
  (¬ (f_an0 x2_2.toNatClampNeg) = (f_an1 x2_2.toNatClampNeg) → post 0))))))
def wpL_areAlike (f_an0 : Nat → Int32) (f_an1 : Nat → Int32) (post : Int32 → Prop) : Prop :=
  (∃ n_2, n_2 ≤ 161 ∧ wpL_areAlike_L2 f_an0 f_an1 post n_2 0)
def wpL_limit (x1 : Int32) (V_dw0 : DV) (post : Int32 → DV → Prop) : Prop :=
  wpD_streetClass x1 V_dw0 (fun r1 V_v1 => post (5 * ((r1 - 97) + 1)) V_v1)
def wpL_seen_L232 (k175 : Int32 → DV → (Nat → Nat) → (Nat → Int32) → Prop) (post : DV → (Nat → Nat) → (Nat → Int32) → Prop) : Nat → Int32 → Int32 → Int32 → DV → (Nat → Nat) → (Nat → Int32) → Prop
  | 0, _, _, _, _, _, _ => False
  | n_232 + 1, x2_232, x3_232, x4_232, V_dw0_232, at_y3_232, f_y3_232 =>
  wpD_queueLength x2_232 V_dw0_232 (fun r31 V_v31 => ((r31 ≤ x4_232 → k175 (x2_232 + 1) V_v31 at_y3_232 f_y3_232) ∧
  (¬ r31 ≤ x4_232 → wpL_queuedStreet x2_232 x4_232 V_v31 (fun r32 V_v32 => (vp_in ((x3_232 + 4) + x4_232) 160 ∧
  wpL_seen_L232 k175 post n_232 x2_232 x3_232 (x4_232 + 1) V_v32 at_y3_232 (upd f_y3_232 ((x3_232 + 4) + x4_232).toNatClampNeg r32))))))
def wpL_seen_L175 (post : DV → (Nat → Nat) → (Nat → Int32) → Prop) : Nat → Int32 → DV → (Nat → Nat) → (Nat → Int32) → Prop
  | 0, _, _, _, _ => False
  | n_175 + 1, x2_175, V_dw0_175, at_y3_175, f_y3_175 =>
  wpP_ploughCount V_dw0_175 (fun r22 V_v22 => ((r22 ≤ x2_175 → post V_v22 at_y3_175 f_y3_175) ∧
  (¬ r22 ≤ x2_175 → wpD_junction x2_175 V_v22 (fun r23 V_v23 => (vp_in (100 + (10 * x2_175)) 160 ∧
  wpD_busyMinutes x2_175 V_v23 (fun r25 V_v25 => (vp_in ((100 + (10 * x2_175)) + 1) 160 ∧
  wpL_currentStreet x2_175 V_v25 (fun r27 V_v27 => (vp_in ((100 + (10 * x2_175)) + 2) 160 ∧
  wpD_queueLength x2_175 V_v27 (fun r29 V_v29 => (vp_in ((100 + (10 * x2_175)) + 3) 160 ∧
  (∃ n_232, n_232 ≤ 6 ∧ wpL_seen_L232 (fun v1 v2 v3 v4 => wpL_seen_L175 post n_175 v1 v2 v3 v4) post n_232 x2_175 (100 + (10 * x2_175)) 0 V_v29 at_y3_175 (upd (upd (upd (upd f_y3_175 (100 + (10 * x2_175)).toNatClampNeg r23) ((100 + (10 * x2_175)) + 1).toNatClampNeg r25) ((100 + (10 * x2_175)) + 2).toNatClampNeg r27) ((100 + (10 * x2_175)) + 3).toNatClampNeg r29)))))))))))))
def wpL_seen_L82 (post : DV → (Nat → Nat) → (Nat → Int32) → Prop) : Nat → Int32 → DV → (Nat → Nat) → (Nat → Int32) → Prop
  | 0, _, _, _, _ => False
  | n_82 + 1, x2_82, V_dw0_82, at_y3_82, f_y3_82 =>
  wpP_streetCount V_dw0_82 (fun r21 V_v21 => ((r21 ≤ x2_82 → (∃ n_175, n_175 ≤ 5 ∧ wpL_seen_L175 post n_175 0 V_v21 at_y3_82 f_y3_82)) ∧
  (¬ r21 ≤ x2_82 → wpD_lowerEnd x2_82 V_v21 (fun r34 V_v34 => (vp_in (10 + (7 * x2_82)) 160 ∧
  wpD_higherEnd x2_82 V_v34 (fun r36 V_v36 => (vp_in ((10 + (7 * x2_82)) + 1) 160 ∧
  wpD_streetClass x2_82 V_v36 (fun r38 V_v38 => (vp_in ((10 + (7 * x2_82)) + 2) 160 ∧
  wpD_length x2_82 V_v38 (fun r40 V_v40 => (vp_in ((10 + (7 * x2_82)) + 3) 160 ∧
  wpD_depth x2_82 V_v40 (fun r42 V_v42 => (vp_in ((10 + (7 * x2_82)) + 4) 160 ∧
  wpL_saltMinutes x2_82 V_v42 (fun r44 V_v44 => (vp_in ((10 + (7 * x2_82)) + 5) 160 ∧
  wpD_complaints x2_82 V_v44 (fun r46 V_v46 => (vp_in ((10 + (7 * x2_82)) + 6) 160 ∧
  wpL_seen_L82 post n_82 (x2_82 + 1) V_v46 at_y3_82 (upd (upd (upd (upd (upd (upd (upd f_y3_82 (10 + (7 * x2_82)).toNatClampNeg r34) ((10 + (7 * x2_82)) + 1).toNatClampNeg r36) ((10 + (7 * x2_82)) + 2).toNatClampNeg r38) ((10 + (7 * x2_82)) + 3).toNatClampNeg r40) ((10 + (7 * x2_82)) + 4).toNatClampNeg r42) ((10 + (7 * x2_82)) + 5).toNatClampNeg r44) ((10 + (7 * x2_82)) + 6).toNatClampNeg r46))))))))))))))))))
def wpL_seen (V_dw0 : DV) (post : DV → (Nat → Nat) → (Nat → Int32) → Prop) : Prop :=
  ∀ at_y3 : Nat → Nat, wpP_time V_dw0 (fun r1 V_v1 => (vp_in 0 160 ∧
  wpP_streetCount V_v1 (fun r3 V_v3 => (vp_in 1 160 ∧
  wpP_ploughCount V_v3 (fun r5 V_v5 => (vp_in 2 160 ∧
  wpP_saltStore V_v5 (fun r7 V_v7 => (vp_in 3 160 ∧
  wpP_snowfall V_v7 (fun r9 V_v9 => (vp_in 4 160 ∧
  wpP_wind V_v9 (fun r11 V_v11 => (vp_in 5 160 ∧
  wpP_clearedTotal V_v11 (fun r13 V_v13 => (vp_in 6 160 ∧
  wpP_ploughedTotal V_v13 (fun r15 V_v15 => (vp_in 7 160 ∧
  wpP_failedOrders V_v15 (fun r17 V_v17 => (vp_in 8 160 ∧
  wpP_complaintTotal V_v17 (fun r19 V_v19 => (vp_in 9 160 ∧
  (∃ n_82, n_82 ≤ 13 ∧ wpL_seen_L82 post n_82 0 V_v19 at_y3 (upd (upd (upd (upd (upd (upd (upd (upd (upd (upd (fun _ => 0) (0 : Int32).toNatClampNeg r1) (1 : Int32).toNatClampNeg r3) (2 : Int32).toNatClampNeg r5) (3 : Int32).toNatClampNeg r7) (4 : Int32).toNatClampNeg r9) (5 : Int32).toNatClampNeg r11) (6 : Int32).toNatClampNeg r13) (7 : Int32).toNatClampNeg r15) (8 : Int32).toNatClampNeg r17) (9 : Int32).toNatClampNeg r19))))))))))))))))))))))
def wpL_distances_L125 (k116 : Int32 → Int32 → DV → (Nat → Nat) → (Nat → Nat → Int32) → Prop) (k108 : Int32 → DV → (Nat → Nat) → (Nat → Nat → Int32) → Prop) (post : DV → (Nat → Nat) → (Nat → Nat → Int32) → Prop) : Nat → Int32 → Int32 → Int32 → DV → (Nat → Nat) → (Nat → Nat → Int32) → Prop
  | 0, _, _, _, _, _, _ => False
  | n_125 + 1, x2_125, x3_125, x4_125, V_dw0_125, at_y4_125, f_y4_125 =>
  ((8 ≤ x4_125 → k116 x2_125 (x3_125 + 1) V_dw0_125 at_y4_125 f_y4_125) ∧
  (¬ 8 ≤ x4_125 → (vp_in x3_125 8 ∧
  (vp_in x3_125 8 ∧
  (vp_in x4_125 8 ∧
  (vp_in x3_125 8 ∧
  (vp_in x2_125 8 ∧
  (vp_in x2_125 8 ∧
  (vp_in x4_125 8 ∧
  (vp_in x4_125 8 ∧
  wpL_distances_L125 k116 k108 post n_125 x2_125 x3_125 (x4_125 + 1) V_dw0_125 at_y4_125 (zd_up f_y4_125 x3_125.toNatClampNeg x4_125.toNatClampNeg (if ((f_y4_125 x3_125.toNatClampNeg x2_125.toNatClampNeg) + (f_y4_125 x2_125.toNatClampNeg x4_125.toNatClampNeg)) < (f_y4_125 x3_125.toNatClampNeg x4_125.toNatClampNeg) then ((f_y4_125 x3_125.toNatClampNeg x2_125.toNatClampNeg) + (f_y4_125 x2_125.toNatClampNeg x4_125.toNatClampNeg)) else (f_y4_125 x3_125.toNatClampNeg x4_125.toNatClampNeg)))))))))))))
def wpL_distances_L116 (k108 : Int32 → DV → (Nat → Nat) → (Nat → Nat → Int32) → Prop) (post : DV → (Nat → Nat) → (Nat → Nat → Int32) → Prop) : Nat → Int32 → Int32 → DV → (Nat → Nat) → (Nat → Nat → Int32) → Prop
  | 0, _, _, _, _, _ => False
  | n_116 + 1, x2_116, x3_116, V_dw0_116, at_y4_116, f_y4_116 =>
  ((8 ≤ x3_116 → k108 (x2_116 + 1) V_dw0_116 at_y4_116 f_y4_116) ∧
  (¬ 8 ≤ x3_116 → (∃ n_125, n_125 ≤ 9 ∧ wpL_distances_L125 (fun v1 v2 v3 v4 v5 => wpL_distances_L116 k108 post n_116 v1 v2 v3 v4 v5) k108 post n_125 x2_116 x3_116 0 V_dw0_116 at_y4_116 f_y4_116)))
def wpL_distances_L108 (post : DV → (Nat → Nat) → (Nat → Nat → Int32) → Prop) : Nat → Int32 → DV → (Nat → Nat) → (Nat → Nat → Int32) → Prop
  | 0, _, _, _, _ => False
  | n_108 + 1, x2_108, V_dw0_108, at_y4_108, f_y4_108 =>
  ((8 ≤ x2_108 → post V_dw0_108 at_y4_108 f_y4_108) ∧
  (¬ 8 ≤ x2_108 → (∃ n_116, n_116 ≤ 9 ∧ wpL_distances_L116 (fun v1 v2 v3 v4 => wpL_distances_L108 post n_108 v1 v2 v3 v4) post n_116 x2_108 0 V_dw0_108 at_y4_108 f_y4_108)))
def wpL_distances_L56 (post : DV → (Nat → Nat) → (Nat → Nat → Int32) → Prop) : Nat → Int32 → DV → (Nat → Nat) → (Nat → Nat → Int32) → Prop
  | 0, _, _, _, _ => False
  | n_56 + 1, x2_56, V_dw0_56, at_y4_56, f_y4_56 =>
  wpP_streetCount V_dw0_56 (fun r1 V_v1 => ((r1 ≤ x2_56 → (∃ n_108, n_108 ≤ 9 ∧ wpL_distances_L108 post n_108 0 V_v1 at_y4_56 f_y4_56)) ∧
  (¬ r1 ≤ x2_56 → wpD_lowerEnd x2_56 V_v1 (fun r10 V_v10 => (vp_in r10 8 ∧
  wpD_higherEnd x2_56 V_v10 (fun r12 V_v12 => wpD_length x2_56 V_v12 (fun r13 V_v13 => (vp_in r12 8 ∧
  wpD_higherEnd x2_56 V_v13 (fun r15 V_v15 => (vp_in r15 8 ∧
  wpD_lowerEnd x2_56 V_v15 (fun r17 V_v17 => wpD_length x2_56 V_v17 (fun r18 V_v18 => (vp_in r17 8 ∧
  wpL_distances_L56 post n_56 (x2_56 + 1) V_v18 at_y4_56 (zd_up (zd_up f_y4_56 r10.toNatClampNeg r12.toNatClampNeg r13) r15.toNatClampNeg r17.toNatClampNeg r18))))))))))))))
def wpL_distances_L19 (k11 : Int32 → DV → (Nat → Nat) → (Nat → Nat → Int32) → Prop) (post : DV → (Nat → Nat) → (Nat → Nat → Int32) → Prop) : Nat → Int32 → Int32 → DV → (Nat → Nat) → (Nat → Nat → Int32) → Prop
  | 0, _, _, _, _, _ => False
  | n_19 + 1, x2_19, x3_19, V_dw0_19, at_y4_19, f_y4_19 =>
  ((8 ≤ x3_19 → k11 (x2_19 + 1) V_dw0_19 at_y4_19 f_y4_19) ∧
  (¬ 8 ≤ x3_19 → (vp_in x2_19 8 ∧
  ((¬ x2_19 = x3_19 → (vp_in x3_19 8 ∧
  wpL_distances_L19 k11 post n_19 x2_19 (x3_19 + 1) V_dw0_19 at_y4_19 (zd_up f_y4_19 x2_19.toNatClampNeg x3_19.toNatClampNeg 9999))) ∧
  (x2_19 = x3_19 → (vp_in x3_19 8 ∧
  wpL_distances_L19 k11 post n_19 x2_19 (x3_19 + 1) V_dw0_19 at_y4_19 (zd_up f_y4_19 x2_19.toNatClampNeg x3_19.toNatClampNeg 0)))))))
def wpL_distances_L11 (post : DV → (Nat → Nat) → (Nat → Nat → Int32) → Prop) : Nat → Int32 → DV → (Nat → Nat) → (Nat → Nat → Int32) → Prop
  | 0, _, _, _, _ => False
  | n_11 + 1, x2_11, V_dw0_11, at_y4_11, f_y4_11 =>
  ((8 ≤ x2_11 → (∃ n_56, n_56 ≤ 13 ∧ wpL_distances_L56 post n_56 0 V_dw0_11 at_y4_11 f_y4_11)) ∧
  (¬ 8 ≤ x2_11 → (∃ n_19, n_19 ≤ 9 ∧ wpL_distances_L19 (fun v1 v2 v3 v4 => wpL_distances_L11 post n_11 v1 v2 v3 v4) post n_19 x2_11 0 V_dw0_11 at_y4_11 f_y4_11)))
def wpL_distances (V_dw0 : DV) (post : DV → (Nat → Nat) → (Nat → Nat → Int32) → Prop) : Prop :=
  ∀ at_y4 : Nat → Nat, (∃ n_11, n_11 ≤ 9 ∧ wpL_distances_L11 post n_11 0 V_dw0 at_y4 (fun _ _ => 0))
def wpL_isWell_L323 (k221 : Int32 → Int32 → DV → (Nat → Nat) → (Nat → Nat → Int32) → Prop) (post : Int32 → DV → Prop) : Nat → Int32 → Int32 → Int32 → DV → (Nat → Nat) → (Nat → Nat → Int32) → Prop
  | 0, _, _, _, _, _, _ => False
  | n_323 + 1, x2_323, x3_323, x6_323, V_dw0_323, at_y1_323, f_y1_323 =>
  wpP_streetCount V_dw0_323 (fun r12 V_v12 => ((r12 ≤ x6_323 → k221 x2_323 (x3_323 + 1) V_v12 at_y1_323 f_y1_323) ∧
  (¬ r12 ≤ x6_323 → wpD_junction x3_323 V_v12 (fun r13 V_v13 => (vp_in r13 8 ∧
  wpD_lowerEnd x6_323 V_v13 (fun r15 V_v15 => (vp_in r15 8 ∧
  wpD_junction x3_323 V_v15 (fun r17 V_v17 => (vp_in r17 8 ∧
  wpD_higherEnd x6_323 V_v17 (fun r19 V_v19 => (vp_in r19 8 ∧
  wpL_orderMinutes x3_323 x6_323 V_v19 (fun r21 V_v21 => (((if (f_y1_323 r17.toNatClampNeg r19.toNatClampNeg) < (f_y1_323 r13.toNatClampNeg r15.toNatClampNeg) then (f_y1_323 r17.toNatClampNeg r19.toNatClampNeg) else (f_y1_323 r13.toNatClampNeg r15.toNatClampNeg)) < 9999 → wpD_length x6_323 V_v21 (fun r22 V_v22 => ((r21 = ((2 * (if (f_y1_323 r17.toNatClampNeg r19.toNatClampNeg) < (f_y1_323 r13.toNatClampNeg r15.toNatClampNeg) then (f_y1_323 r17.toNatClampNeg r19.toNatClampNeg) else (f_y1_323 r13.toNatClampNeg r15.toNatClampNeg))) + (4 * r22)) → wpL_isWell_L323 k221 post n_323 x2_323 x3_323 (x6_323 + 1) V_v22 at_y1_323 f_y1_323) ∧
  (¬ r21 = ((2 * (if (f_y1_323 r17.toNatClampNeg r19.toNatClampNeg) < (f_y1_323 r13.toNatClampNeg r15.toNatClampNeg) then (f_y1_323 r17.toNatClampNeg r19.toNatClampNeg) else (f_y1_323 r13.toNatClampNeg r15.toNatClampNeg))) + (4 * r22)) → post 0 V_v22)))) ∧
  (¬ (if (f_y1_323 r17.toNatClampNeg r19.toNatClampNeg) < (f_y1_323 r13.toNatClampNeg r15.toNatClampNeg) then (f_y1_323 r17.toNatClampNeg r19.toNatClampNeg) else (f_y1_323 r13.toNatClampNeg r15.toNatClampNeg)) < 9999 → ((r21 = (-900002) → wpL_isWell_L323 k221 post n_323 x2_323 x3_323 (x6_323 + 1) V_v21 at_y1_323 f_y1_323) ∧
  (¬ r21 = (-900002) → post 0 V_v21))))))))))))))))
def wpL_isWell_L273 (k221 : Int32 → Int32 → DV → (Nat → Nat) → (Nat → Nat → Int32) → Prop) (post : Int32 → DV → Prop) (z0_273 : Int32) (z1_273 : Int32) (x2_273 : Int32) (x3_273 : Int32) (x4_273 : Int32) (x5_273 : Int32) (V_dw0_273 : DV) (at_y1_273 : Nat → Nat) (f_y1_273 : Nat → Nat → Int32) : Prop :=
  ((¬ z0_273 = z1_273 → post 0 V_dw0_273) ∧
  (z0_273 = z1_273 → wpD_queueLength x3_273 V_dw0_273 (fun r11 V_v11 => ((5 < r11 → post 0 V_v11) ∧
  (¬ 5 < r11 → ((x4_273 = 0 → (∃ n_323, n_323 ≤ 13 ∧ wpL_isWell_L323 k221 post n_323 x2_273 x3_273 0 V_v11 at_y1_273 f_y1_273)) ∧
  (¬ x4_273 = 0 → wpD_junction x3_273 V_v11 (fun r23 V_v23 => wpD_lowerEnd x5_273 V_v23 (fun r24 V_v24 => ((r23 = r24 → (∃ n_323, n_323 ≤ 13 ∧ wpL_isWell_L323 k221 post n_323 x2_273 x3_273 0 V_v24 at_y1_273 f_y1_273)) ∧
  (¬ r23 = r24 → wpD_junction x3_273 V_v24 (fun r25 V_v25 => wpD_higherEnd x5_273 V_v25 (fun r26 V_v26 => ((r25 = r26 → (∃ n_323, n_323 ≤ 13 ∧ wpL_isWell_L323 k221 post n_323 x2_273 x3_273 0 V_v26 at_y1_273 f_y1_273)) ∧
  (¬ r25 = r26 → post 0 V_v26)))))))))))))))
def wpL_isWell_L258 (k221 : Int32 → Int32 → DV → (Nat → Nat) → (Nat → Nat → Int32) → Prop) (post : Int32 → DV → Prop) (z0_258 : Int32) (z1_258 : Int32) (x2_258 : Int32) (x3_258 : Int32) (x4_258 : Int32) (x5_258 : Int32) (V_dw0_258 : DV) (at_y1_258 : Nat → Nat) (f_y1_258 : Nat → Nat → Int32) : Prop :=
  ((¬ z0_258 = z1_258 → post 0 V_dw0_258) ∧
  (z0_258 = z1_258 → ((x5_258 < 0 → wpL_isWell_L273 k221 post x4_258 0 x2_258 x3_258 x4_258 x5_258 V_dw0_258 at_y1_258 f_y1_258) ∧
  (¬ x5_258 < 0 → wpL_isWell_L273 k221 post x4_258 1 x2_258 x3_258 x4_258 x5_258 V_dw0_258 at_y1_258 f_y1_258))))
def wpL_isWell_L221 (post : Int32 → DV → Prop) : Nat → Int32 → Int32 → DV → (Nat → Nat) → (Nat → Nat → Int32) → Prop
  | 0, _, _, _, _, _ => False
  | n_221 + 1, x2_221, x3_221, V_dw0_221, at_y1_221, f_y1_221 =>
  wpP_ploughCount V_dw0_221 (fun r3 V_v3 => ((r3 ≤ x3_221 → wpP_complaintTotal V_v3 (fun r4 V_v4 => ((¬ x2_221 = r4 → post 0 V_v4) ∧
  (x2_221 = r4 → wpP_saltStore V_v4 (fun r5 V_v5 => ((r5 < 0 → post 0 V_v5) ∧
  (¬ r5 < 0 → wpP_saltStore V_v5 (fun r6 V_v6 => ((500 < r6 → post 0 V_v6) ∧
  (¬ 500 < r6 → wpP_isConsistent V_v6 (fun r7 V_v7 => ((r7 = 0 → post 0 V_v7) ∧
  (¬ r7 = 0 → post 1 V_v7))))))))))))) ∧
  (¬ r3 ≤ x3_221 → wpD_isBusy x3_221 V_v3 (fun r8 V_v8 => wpL_currentStreet x3_221 V_v8 (fun r9 V_v9 => wpD_busyMinutes x3_221 V_v9 (fun r10 V_v10 => ((r10 ≤ 0 → wpL_isWell_L258 (fun v1 v2 v3 v4 v5 => wpL_isWell_L221 post n_221 v1 v2 v3 v4 v5) post r8 0 x2_221 x3_221 r8 r9 V_v10 at_y1_221 f_y1_221) ∧
  (¬ r10 ≤ 0 → wpL_isWell_L258 (fun v1 v2 v3 v4 v5 => wpL_isWell_L221 post n_221 v1 v2 v3 v4 v5) post r8 1 x2_221 x3_221 r8 r9 V_v10 at_y1_221 f_y1_221))))))))
def wpL_isWell_L186 (k90 : Int32 → Int32 → DV → (Nat → Nat) → (Nat → Nat → Int32) → Prop) (post : Int32 → DV → Prop) (z0_186 : Int32) (z1_186 : Int32) (x2_186 : Int32) (x3_186 : Int32) (x4_186 : Int32) (V_dw0_186 : DV) (at_y1_186 : Nat → Nat) (f_y1_186 : Nat → Nat → Int32) : Prop :=
  ((¬ z0_186 = z1_186 → post 0 V_dw0_186) ∧
  (z0_186 = z1_186 → ((240 < x4_186 → post 0 V_dw0_186) ∧
  (¬ 240 < x4_186 → wpL_depthAfter x3_186 0 V_dw0_186 (fun r37 V_v37 => wpD_depth x3_186 V_v37 (fun r38 V_v38 => ((r37 = r38 → k90 x2_186 (x3_186 + 1) V_v38 at_y1_186 f_y1_186) ∧
  (¬ r37 = r38 → post 0 V_v38))))))))
def wpL_isWell_L168 (k90 : Int32 → Int32 → DV → (Nat → Nat) → (Nat → Nat → Int32) → Prop) (post : Int32 → DV → Prop) (z0_168 : Int32) (z1_168 : Int32) (x2_168 : Int32) (x3_168 : Int32) (x4_168 : Int32) (V_dw0_168 : DV) (at_y1_168 : Nat → Nat) (f_y1_168 : Nat → Nat → Int32) : Prop :=
  ((¬ z0_168 = z1_168 → post 0 V_dw0_168) ∧
  (z0_168 = z1_168 → wpD_isSalted x3_168 V_dw0_168 (fun r36 V_v36 => ((x4_168 ≤ 0 → wpL_isWell_L186 k90 post r36 0 x2_168 x3_168 x4_168 V_v36 at_y1_168 f_y1_168) ∧
  (¬ x4_168 ≤ 0 → wpL_isWell_L186 k90 post r36 1 x2_168 x3_168 x4_168 V_v36 at_y1_168 f_y1_168)))))
def wpL_isWell_L90 (post : Int32 → DV → Prop) : Nat → Int32 → Int32 → DV → (Nat → Nat) → (Nat → Nat → Int32) → Prop
  | 0, _, _, _, _, _ => False
  | n_90 + 1, x2_90, x3_90, V_dw0_90, at_y1_90, f_y1_90 =>
  wpP_streetCount V_dw0_90 (fun r2 V_v2 => ((r2 ≤ x3_90 → (∃ n_221, n_221 ≤ 5 ∧ wpL_isWell_L221 post n_221 x2_90 0 V_v2 at_y1_90 f_y1_90)) ∧
  (¬ r2 ≤ x3_90 → wpL_saltMinutes x3_90 V_v2 (fun r27 V_v27 => wpD_complaints x3_90 V_v27 (fun r28 V_v28 => wpD_lowerEnd x3_90 V_v28 (fun r29 V_v29 => wpD_higherEnd x3_90 V_v29 (fun r30 V_v30 => ((r30 ≤ r29 → post 0 V_v30) ∧
  (¬ r30 ≤ r29 → wpD_depth x3_90 V_v30 (fun r31 V_v31 => ((r31 < 0 → post 0 V_v31) ∧
  (¬ r31 < 0 → wpD_depth x3_90 V_v31 (fun r32 V_v32 => ((200 < r32 → post 0 V_v32) ∧
  (¬ 200 < r32 → wpD_isOverdue x3_90 V_v32 (fun r33 V_v33 => wpD_depth x3_90 V_v33 (fun r34 V_v34 => wpL_limit x3_90 V_v34 (fun r35 V_dw0_v35 => ((r34 ≤ r35 → wpL_isWell_L168 (fun v1 v2 v3 v4 v5 => wpL_isWell_L90 post n_90 v1 v2 v3 v4 v5) post r33 0 (x2_90 + r28) x3_90 r27 V_dw0_v35 at_y1_90 f_y1_90) ∧
  (¬ r34 ≤ r35 → wpL_isWell_L168 (fun v1 v2 v3 v4 v5 => wpL_isWell_L90 post n_90 v1 v2 v3 v4 v5) post r33 1 (x2_90 + r28) x3_90 r27 V_dw0_v35 at_y1_90 f_y1_90))))))))))))))))))))
def wpL_isWell_L48 (k18 : Int32 → Int32 → Int32 → DV → (Nat → Nat) → (Nat → Nat → Int32) → Prop) (k9 : Int32 → Int32 → DV → (Nat → Nat) → (Nat → Nat → Int32) → Prop) (post : Int32 → DV → Prop) (z0_48 : Int32) (x2_48 : Int32) (x3_48 : Int32) (x4_48 : Int32) (V_dw0_48 : DV) (at_y1_48 : Nat → Nat) (f_y1_48 : Nat → Nat → Int32) : Prop :=
  wpL_distance x3_48 x4_48 V_dw0_48 (fun r43 V_v43 => ((¬ r43 = z0_48 → post 0 V_v43) ∧
  (r43 = z0_48 → wpL_distanceByJunctions x3_48 x4_48 V_v43 (fun r44 V_v44 => ((r44 = z0_48 → k18 x2_48 x3_48 (x4_48 + 1) V_v44 at_y1_48 f_y1_48) ∧
  (¬ r44 = z0_48 → post 0 V_v44))))))
def wpL_isWell_L18 (k9 : Int32 → Int32 → DV → (Nat → Nat) → (Nat → Nat → Int32) → Prop) (post : Int32 → DV → Prop) : Nat → Int32 → Int32 → Int32 → DV → (Nat → Nat) → (Nat → Nat → Int32) → Prop
  | 0, _, _, _, _, _, _ => False
  | n_18 + 1, x2_18, x3_18, x4_18, V_dw0_18, at_y1_18, f_y1_18 =>
  ((8 ≤ x4_18 → k9 x2_18 (x3_18 + 1) V_dw0_18 at_y1_18 f_y1_18) ∧
  (¬ 8 ≤ x4_18 → (vp_in x3_18 8 ∧
  (vp_in x4_18 8 ∧
  (((f_y1_18 x3_18.toNatClampNeg x4_18.toNatClampNeg) < 9999 → (vp_in x3_18 8 ∧
  (vp_in x4_18 8 ∧
  wpL_isWell_L48 (fun v1 v2 v3 v4 v5 v6 => wpL_isWell_L18 k9 post n_18 v1 v2 v3 v4 v5 v6) k9 post (f_y1_18 x3_18.toNatClampNeg x4_18.toNatClampNeg) x2_18 x3_18 x4_18 V_dw0_18 at_y1_18 f_y1_18))) ∧
  (¬ (f_y1_18 x3_18.toNatClampNeg x4_18.toNatClampNeg) < 9999 → wpL_isWell_L48 (fun v1 v2 v3 v4 v5 v6 => wpL_isWell_L18 k9 post n_18 v1 v2 v3 v4 v5 v6) k9 post (-900002) x2_18 x3_18 x4_18 V_dw0_18 at_y1_18 f_y1_18))))))
def wpL_isWell_L9 (post : Int32 → DV → Prop) : Nat → Int32 → Int32 → DV → (Nat → Nat) → (Nat → Nat → Int32) → Prop
  | 0, _, _, _, _, _ => False
  | n_9 + 1, x2_9, x3_9, V_dw0_9, at_y1_9, f_y1_9 =>
  ((8 ≤ x3_9 → (∃ n_90, n_90 ≤ 13 ∧ wpL_isWell_L90 post n_90 x2_9 0 V_dw0_9 at_y1_9 f_y1_9)) ∧
  (¬ 8 ≤ x3_9 → (∃ n_18, n_18 ≤ 9 ∧ wpL_isWell_L18 (fun v1 v2 v3 v4 v5 => wpL_isWell_L9 post n_9 v1 v2 v3 v4 v5) post n_18 x2_9 x3_9 0 V_dw0_9 at_y1_9 f_y1_9)))
def wpL_isWell (V_dw0 : DV) (post : Int32 → DV → Prop) : Prop :=
  wpL_distances V_dw0 (fun V_dw0_v1 at_y1 f_y1 => (∃ n_9, n_9 ≤ 9 ∧ wpL_isWell_L9 post n_9 0 0 V_dw0_v1 at_y1 f_y1))
def wpL_does_L4 (n_sw1 : Nat) (f_sw1 : Nat → Int32) (post : Int32 → DV → Prop) : Nat → Int32 → Int32 → DV → Prop
  | 0, _, _, _ => False
  | n_4 + 1, x2_4, x3_4, V_dw0_4 =>
  wpJ0_length_8abf5_w n_sw1 (fun r1 => ((r1 ≤ x3_4 → ((0 ≤ x2_4 → wpL_runScript V_dw0_4 (fun r2 V_v2 => post r2 V_v2)) ∧
  (¬ 0 ≤ x2_4 → post (-900009) V_dw0_4))) ∧
  (¬ r1 ≤ x3_4 → wpJ0_charAt_5068e_w x3_4 n_sw1 f_sw1 (fun r3 => wpD_type r3 V_dw0_4 (fun r4 V_v4 => wpL_does_L4 n_sw1 f_sw1 post n_4 (x2_4 + r4) (x3_4 + 1) V_v4)))))
def wpL_does (V_dw0 : DV) (n_sw1 : Nat) (f_sw1 : Nat → Int32) (post : Int32 → DV → Prop) : Prop :=
  (∃ n_4, n_4 ≤ 41 ∧ wpL_does_L4 n_sw1 f_sw1 post n_4 0 0 V_dw0)
def wpL_begun_L128 (z_len : Nat) (z_txt : Nat → Int32) (post : (Nat → Nat → Nat) → (Nat → Nat → Nat) → DV → Prop) : Nat → Int32 → Int32 → (Nat → Nat → Nat) → (Nat → Nat → Nat) → DV → Prop
  | 0, _, _, _, _, _ => False
  | n_128 + 1, x2_128, x4_128, a_y0_128, ra_y0_128, V_y0_128 =>
  ((5 ≤ x4_128 → wpL_in z_len z_txt 49 60 (fun r7 => wpL_loadSalt (1 + r7) V_y0_128 (fun r8 V_v8 => wpL_in z_len z_txt 50 10 (fun r9 => wpL_setSnowfall r9 V_v8 (fun r10 V_v10 => wpL_in z_len z_txt 51 10 (fun r11 => wpL_setWind r11 V_v10 (fun r12 V_v12 => wpL_salt 0 V_v12 (fun r13 V_v13 => wpL_in z_len z_txt 52 2 (fun r14 => ((¬ r14 = 0 → (((-90000000) ≤ ((x2_128 + (((r8 + r10) + r12) + r13)) + 0) → post a_y0_128 ra_y0_128 V_v13) ∧
  (¬ (-90000000) ≤ ((x2_128 + (((r8 + r10) + r12) + r13)) + 0) → False))) ∧
  (r14 = 0 → wpL_in z_len z_txt 53 300 (fun r15 => wpL_advance (1 + r15) V_v13 (fun r16 V_v16 => (((-90000000) ≤ ((x2_128 + (((r8 + r10) + r12) + r13)) + r16) → post a_y0_128 ra_y0_128 V_v16) ∧
  (¬ (-90000000) ≤ ((x2_128 + (((r8 + r10) + r12) + r13)) + r16) → False))))))))))))))) ∧
  (¬ 5 ≤ x4_128 → wpL_in z_len z_txt (39 + x4_128) 2 (fun r17 => wpP_streetCount V_y0_128 (fun r18 V_v18 => wpL_in z_len z_txt (44 + x4_128) r18 (fun r19 => wpL_order r17 r19 V_v18 (fun r20 V_v20 => wpL_begun_L128 z_len z_txt post n_128 (x2_128 + r20) (x4_128 + 1) a_y0_128 ra_y0_128 V_v20))))))
def wpL_begun_L22 (z_len : Nat) (z_txt : Nat → Int32) (post : (Nat → Nat → Nat) → (Nat → Nat → Nat) → DV → Prop) : Nat → Int32 → Int32 → Int32 → (Nat → Nat → Nat) → (Nat → Nat → Nat) → DV → Prop
  | 0, _, _, _, _, _, _ => False
  | n_22 + 1, x2_22, x3_22, x4_22, a_y0_22, ra_y0_22, V_y0_22 =>
  ((9 ≤ x4_22 → wpL_addStreet 0 1 97 3 V_y0_22 (fun r2 V_v2 => wpL_in z_len z_txt 37 8 (fun r3 => wpL_addPlough r3 V_v2 (fun r4 V_v4 => wpL_in z_len z_txt 38 x3_22 (fun r5 => wpL_addPlough r5 V_v4 (fun r6 V_v6 => (∃ n_128, n_128 ≤ 6 ∧ wpL_begun_L128 z_len z_txt post n_128 (x2_22 + ((r2 + r4) + r6)) 0 a_y0_22 ra_y0_22 V_v6))))))) ∧
  (¬ 9 ≤ x4_22 → wpL_in z_len z_txt (1 + x4_22) x3_22 (fun r21 => wpL_in z_len z_txt (10 + x4_22) x3_22 (fun r22 => wpL_in z_len z_txt (19 + x4_22) 3 (fun r23 => wpL_in z_len z_txt (28 + x4_22) 6 (fun r24 => wpL_addStreet r21 r22 (((97 + r23).toUInt32 % 65536).toInt32) (1 + r24) V_y0_22 (fun r25 V_v25 => wpL_begun_L22 z_len z_txt post n_22 (x2_22 + r25) x3_22 (x4_22 + 1) a_y0_22 ra_y0_22 V_v25)))))))
def wpL_begun (z_len : Nat) (z_txt : Nat → Int32) (post : (Nat → Nat → Nat) → (Nat → Nat → Nat) → DV → Prop) : Prop :=
  ∀ (a_y0 ra_y0 : Nat → Nat → Nat) (b1_y0 b2_y0 : Nat → Nat), wpL_in z_len z_txt 0 5 (fun r1 => (∃ n_22, n_22 ≤ 10 ∧ wpL_begun_L22 z_len z_txt post n_22 0 (4 + r1) 0 a_y0 ra_y0 (zDV0 b1_y0 b2_y0)))
def wpL_acts_L206 (z_len : Nat) (z_txt : Nat → Int32) (post : Int32 → DV → Prop) (x5_206 : Int32) (V_dw0_206 : DV) : Prop :=
  ((¬ (x5_206 - x5_206 / 3 * 3) = 0 → wpL_advance x5_206 V_dw0_206 (fun r17 V_v17 => post r17 V_v17)) ∧
  ((x5_206 - x5_206 / 3 * 3) = 0 → wpL_advance (8 * x5_206) V_dw0_206 (fun r18 V_v18 => post r18 V_v18)))
def wpL_acts (z_len : Nat) (z_txt : Nat → Int32) (x2 : Int32) (V_dw0 : DV) (post : Int32 → DV → Prop) : Prop :=
  wpL_in z_len z_txt (x2 + 1) 9 (fun r1 => wpL_in z_len z_txt (x2 + 2) 13 (fun r2 => wpL_in z_len z_txt (x2 + 3) 70 (fun r3 => wpL_in z_len z_txt x2 22 (fun r4 => ((r4 = 0 → wpL_addStreet r1 (r2 - r2 / 8 * 8) (((97 + (r3 - r3 / 4 * 4)).toUInt32 % 65536).toInt32) (r3 - r3 / 11 * 11) V_dw0 (fun r5 V_v5 => post r5 V_v5)) ∧
  (¬ r4 = 0 → ((r4 = 1 → wpL_addPlough r1 V_dw0 (fun r6 V_v6 => post r6 V_v6)) ∧
  (¬ r4 = 1 → ((r4 = 2 → wpL_order (r1 - r1 / 4 * 4) r2 V_dw0 (fun r7 V_v7 => post r7 V_v7)) ∧
  (¬ r4 = 2 → ((r4 = 3 → wpL_order (r1 - r1 / 4 * 4) r2 V_dw0 (fun r8 V_v8 => post r8 V_v8)) ∧
  (¬ r4 = 3 → ((r4 = 4 → wpL_order (r1 - r1 / 4 * 4) r2 V_dw0 (fun r9 V_v9 => post r9 V_v9)) ∧
  (¬ r4 = 4 → ((r4 = 5 → wpL_order (r1 - r1 / 4 * 4) r2 V_dw0 (fun r10 V_v10 => post r10 V_v10)) ∧
  (¬ r4 = 5 → ((r4 = 6 → wpL_cancelOrder (r1 - r1 / 4 * 4) V_dw0 (fun r11 V_v11 => post r11 V_v11)) ∧
  (¬ r4 = 6 → ((r4 = 7 → wpL_salt r2 V_dw0 (fun r12 V_v12 => post r12 V_v12)) ∧
  (¬ r4 = 7 → ((r4 = 8 → wpL_salt r2 V_dw0 (fun r13 V_v13 => post r13 V_v13)) ∧
  (¬ r4 = 8 → ((r4 = 9 → wpL_loadSalt (4 * r3) V_dw0 (fun r14 V_v14 => post r14 V_v14)) ∧
  (¬ r4 = 9 → ((r4 = 10 → wpL_setSnowfall (r1 + (r3 - r3 / 2 * 2)) V_dw0 (fun r15 V_v15 => post r15 V_v15)) ∧
  (¬ r4 = 10 → ((r4 = 11 → wpL_setWind (r1 + (r3 - r3 / 2 * 2)) V_dw0 (fun r16 V_v16 => post r16 V_v16)) ∧
  (¬ r4 = 11 → ((r4 = 12 → wpL_acts_L206 z_len z_txt post r3 V_dw0) ∧
  (¬ r4 = 12 → ((r4 = 13 → wpL_acts_L206 z_len z_txt post r3 V_dw0) ∧
  (¬ r4 = 13 → ((r4 = 14 → wpL_acts_L206 z_len z_txt post r3 V_dw0) ∧
  (¬ r4 = 14 → ((r4 = 15 → wpL_acts_L206 z_len z_txt post r3 V_dw0) ∧
  (¬ r4 = 15 → ((r4 = 16 → wpL_acts_L206 z_len z_txt post r3 V_dw0) ∧
  (¬ r4 = 16 → ∀ (a_y229 at_y229 : Nat → Nat), wpJ4_append_15ec4_g (gLen.getD 9 0) (fun j => (gByt.getD 9 []).getD j 0) 0 at_y229 16 (fun _ => 0) (fun c_y229_v19 at_y229_v19 n_y229_v19 f_y229_v19 => wpJ4_append_bf812_g (1 + r3) c_y229_v19 at_y229_v19 n_y229_v19 f_y229_v19 (fun c_y229_v20 at_y229_v20 n_y229_v20 f_y229_v20 => ((¬ (r1 - r1 / 3 * 3) = 0 → ((¬ (r1 - r1 / 3 * 3) = 1 → ∀ (a_y327 at_y327 : Nat → Nat), wpJ4_append_15ec4_g (gLen.getD 14 0) (fun j => (gByt.getD 14 []).getD j 0) 0 at_y327 16 (fun _ => 0) (fun c_y327_v21 at_y327_v21 n_y327_v21 f_y327_v21 => wpJ4_append_bf812_g (1 + r3) c_y327_v21 at_y327_v21 n_y327_v21 f_y327_v21 (fun c_y327_v22 at_y327_v22 n_y327_v22 f_y327_v22 => wpJ4_append_15ec4_g (gLen.getD 17 0) (fun j => (gByt.getD 17 []).getD j 0) c_y327_v22 at_y327_v22 n_y327_v22 f_y327_v22 (fun c_y327_v23 at_y327_v23 n_y327_v23 f_y327_v23 => wpJ4_append_bf812_g (r1 - r1 / 3 * 3) c_y327_v23 at_y327_v23 n_y327_v23 f_y327_v23 (fun c_y327_v24 at_y327_v24 n_y327_v24 f_y327_v24 => wpS_str c_y327_v24 n_y327_v24 f_y327_v24 (fun a_y357 at_y357 n_y357 f_y357 => wpJ4_append_15ec4_gw c_y229_v20 at_y229_v20 n_y229_v20 f_y229_v20 n_y357 f_y357 (fun c_y229_v26 at_y229_v26 n_y229_v26 f_y229_v26 => wpS_str c_y229_v26 n_y229_v26 f_y229_v26 (fun a_y363 at_y363 n_y363 f_y363 => wpL_does V_dw0 n_y363 f_y363 (fun r28 V_dw0_v28 => post r28 V_dw0_v28))))))))) ∧
  ((r1 - r1 / 3 * 3) = 1 → ∀ (a_y295 at_y295 : Nat → Nat), wpJ4_append_15ec4_g (gLen.getD 12 0) (fun j => (gByt.getD 12 []).getD j 0) 0 at_y295 16 (fun _ => 0) (fun c_y295_v29 at_y295_v29 n_y295_v29 f_y295_v29 => wpJ4_append_bf812_g r2 c_y295_v29 at_y295_v29 n_y295_v29 f_y295_v29 (fun c_y295_v30 at_y295_v30 n_y295_v30 f_y295_v30 => wpJ4_append_15ec4_g (gLen.getD 13 0) (fun j => (gByt.getD 13 []).getD j 0) c_y295_v30 at_y295_v30 n_y295_v30 f_y295_v30 (fun c_y295_v31 at_y295_v31 n_y295_v31 f_y295_v31 => wpJ4_append_bf812_g r1 c_y295_v31 at_y295_v31 n_y295_v31 f_y295_v31 (fun c_y295_v32 at_y295_v32 n_y295_v32 f_y295_v32 => wpS_str c_y295_v32 n_y295_v32 f_y295_v32 (fun a_y321 at_y321 n_y321 f_y321 => wpJ4_append_15ec4_gw c_y229_v20 at_y229_v20 n_y229_v20 f_y229_v20 n_y321 f_y321 (fun c_y229_v34 at_y229_v34 n_y229_v34 f_y229_v34 => wpS_str c_y229_v34 n_y229_v34 f_y229_v34 (fun a_y363 at_y363 n_y363 f_y363 => wpL_does V_dw0 n_y363 f_y363 (fun r36 V_dw0_v36 => post r36 V_dw0_v36))))))))))) ∧
  ((r1 - r1 / 3 * 3) = 0 → ∀ (a_y254 at_y254 : Nat → Nat), wpJ4_append_15ec4_g (gLen.getD 10 0) (fun j => (gByt.getD 10 []).getD j 0) 0 at_y254 16 (fun _ => 0) (fun c_y254_v37 at_y254_v37 n_y254_v37 f_y254_v37 => wpJ4_append_bf812_g (r1 - r1 / 4 * 4) c_y254_v37 at_y254_v37 n_y254_v37 f_y254_v37 (fun c_y254_v38 at_y254_v38 n_y254_v38 f_y254_v38 => wpJ4_append_15ec4_g (gLen.getD 11 0) (fun j => (gByt.getD 11 []).getD j 0) c_y254_v38 at_y254_v38 n_y254_v38 f_y254_v38 (fun c_y254_v39 at_y254_v39 n_y254_v39 f_y254_v39 => wpJ4_append_bf812_g r2 c_y254_v39 at_y254_v39 n_y254_v39 f_y254_v39 (fun c_y254_v40 at_y254_v40 n_y254_v40 f_y254_v40 => wpS_str c_y254_v40 n_y254_v40 f_y254_v40 (fun a_y282 at_y282 n_y282 f_y282 => wpJ4_append_15ec4_gw c_y229_v20 at_y229_v20 n_y229_v20 f_y229_v20 n_y282 f_y282 (fun c_y229_v42 at_y229_v42 n_y229_v42 f_y229_v42 => wpS_str c_y229_v42 n_y229_v42 f_y229_v42 (fun a_y363 at_y363 n_y363 f_y363 => wpL_does V_dw0 n_y363 f_y363 (fun r44 V_dw0_v44 => post r44 V_dw0_v44))))))))))))))))))))))))))))))))))))))))))))))))))
def wpL_law_L79 (z_len : Nat) (z_txt : Nat → Int32) (k20 : Int32 → (Nat → Nat → Nat) → (Nat → Nat → Nat) → DV → Prop) (post : Int32 → Prop) (x2_79 : Int32) (x4_79 : Int32) (a_y1_79 : Nat → Nat → Nat) (ra_y1_79 : Nat → Nat → Nat) (V_y1_79 : DV) (at_y27_79 : Nat → Nat) (f_y27_79 : Nat → Int32) : Prop :=
  ((x4_79 ≤ (-900000) → k20 (x2_79 + 1) a_y1_79 ra_y1_79 V_y1_79) ∧
  (¬ x4_79 ≤ (-900000) → wpL_in z_len z_txt (87 + x2_79) 5 (fun r24 => ((¬ r24 = 0 → k20 (x2_79 + 1) a_y1_79 ra_y1_79 V_y1_79) ∧
  (r24 = 0 → wpL_undo V_y1_79 (fun r25 V_v25 => ((r25 < 0 → post 0) ∧
  (¬ r25 < 0 → wpL_seen V_v25 (fun V_y1_v26 at_y108 f_y108 => wpL_areAlike f_y27_79 f_y108 (fun r27 => ((¬ r27 = 0 → k20 (x2_79 + 1) a_y1_79 ra_y1_79 V_y1_v26) ∧
  (r27 = 0 → post 0))))))))))))
def wpL_law_L20 (z_len : Nat) (z_txt : Nat → Int32) (post : Int32 → Prop) : Nat → Int32 → (Nat → Nat → Nat) → (Nat → Nat → Nat) → DV → Prop
  | 0, _, _, _, _ => False
  | n_20 + 1, x2_20, a_y1_20, ra_y1_20, V_y1_20 =>
  ((8 ≤ x2_20 → wpL_seen V_y1_20 (fun V_y1_v3 at_y126 f_y126 => wpP_save V_y1_v3 (fun r4 V_v4 => wpL_minutesUntilCleared 0 V_v4 (fun r5 V_v5 => wpL_depthAfter 0 130 V_v5 (fun r6 V_v6 => wpL_streetByUrgency 0 V_v6 (fun r7 V_v7 => wpD_renderStreet 0 V_v7 (fun r8 V_v8 => wpD_renderQueue 0 V_v8 (fun r9 V_v9 => wpL_seen V_v9 (fun V_y1_v10 at_y171 f_y171 => wpL_areAlike f_y126 f_y171 (fun r11 => ((¬ r11 = 0 → wpL_advance 70 V_y1_v10 (fun r12 V_v12 => wpL_order 0 0 V_v12 (fun r13 V_v13 => wpL_setSnowfall 3 V_v13 (fun r14 V_v14 => wpL_setWind 4 V_v14 (fun r15 V_v15 => wpL_loadSalt 9 V_v15 (fun r16 V_v16 => (((((((r5 + r6) + r7) + r8) + r9) + ((((r12 + r13) + r14) + r15) + r16)) ≤ (-90000000) → post 0) ∧
  (¬ (((((r5 + r6) + r7) + r8) + r9) + ((((r12 + r13) + r14) + r15) + r16)) ≤ (-90000000) → wpL_restore V_v16 (fun r17 V_v17 => ((¬ r17 = r4 → post 0) ∧
  (r17 = r4 → wpL_seen V_v17 (fun V_y1_v18 at_y236 f_y236 => wpL_areAlike f_y126 f_y236 (fun r19 => ((r19 = 0 → post 0) ∧
  (¬ r19 = 0 → wpL_undo V_y1_v18 (fun r20 V_v20 => ((¬ r20 = (-900001) → post 0) ∧
  (r20 = (-900001) → post 1)))))))))))))))))) ∧
  (r11 = 0 → post 0)))))))))))) ∧
  (¬ 8 ≤ x2_20 → wpL_seen V_y1_20 (fun V_y1_v21 at_y27 f_y27 => wpL_acts z_len z_txt (54 + (4 * x2_20)) V_y1_v21 (fun r22 V_y1_v22 => wpL_isWell V_y1_v22 (fun r23 V_y1_v23 => ((r23 = 0 → post 0) ∧
  (¬ r23 = 0 → ((r22 = (-900009) → post 0) ∧
  (¬ r22 = (-900009) → (((-900000) < r22 → wpL_law_L79 z_len z_txt (fun v1 v2 v3 v4 => wpL_law_L20 z_len z_txt post n_20 v1 v2 v3 v4) post x2_20 r22 a_y1_20 ra_y1_20 V_y1_v23 at_y27 f_y27) ∧
  (¬ (-900000) < r22 → wpL_seen V_y1_v23 (fun V_y1_v28 at_y68 f_y68 => wpL_areAlike f_y27 f_y68 (fun r29 => ((¬ r29 = 0 → wpL_law_L79 z_len z_txt (fun v1 v2 v3 v4 => wpL_law_L20 z_len z_txt post n_20 v1 v2 v3 v4) post x2_20 r22 a_y1_20 ra_y1_20 V_y1_v28 at_y27 f_y27) ∧
  (r29 = 0 → post 0)))))))))))))))
def wpL_law (z_len : Nat) (z_txt : Nat → Int32) (post : Int32 → Prop) : Prop :=
  wpL_begun z_len z_txt (fun a_y1 ra_y1 V_y1 => wpL_isWell V_y1 (fun r2 V_y1_v2 => ((¬ r2 = 0 → (∃ n_20, n_20 ≤ 9 ∧ wpL_law_L20 z_len z_txt post n_20 0 a_y1 ra_y1 V_y1_v2)) ∧
  (r2 = 0 → post 0))))
