/-! by program -/
def wpX7_isWord_L2 (su_len : Nat) (su_txt : Nat → Int32) (m_taped : Int32) (m_tape : Nat → Int32) (post : Int32 → Int32 → Prop) : Nat → Int32 → Int32 → Prop
  | 0, _, _ => False
  | n_2 + 1, x2_2, m_here_2 =>
  wpJ0_length_8abf5 su_len (fun r1 => ((r1 ≤ x2_2 → post 1 m_here_2) ∧
  (¬ r1 ≤ x2_2 → wpJ0_charAt_5068e x2_2 su_len su_txt (fun r2 => wpX7_isSign r2 m_taped m_here_2 m_tape (fun r3 m_here_v3 => ((¬ r3 = 0 → wpX7_isWord_L2 su_len su_txt m_taped m_tape post n_2 (x2_2 + 1) m_here_v3) ∧
  (r3 = 0 → post 0 m_here_v3)))))))
def wpX7_isWord (su_len : Nat) (su_txt : Nat → Int32) (m_taped : Int32) (m_here : Int32) (m_tape : Nat → Int32) (post : Int32 → Int32 → Prop) : Prop :=
  (∃ n_2, wpX7_isWord_L2 su_len su_txt m_taped m_tape post n_2 0 m_here)
def wpX7_readsS (x1 : Int32) (m_taped : Int32) (m_here : Int32) (m_tape : Nat → Int32) (m_commands : Nat → Int32) (post : Int32 → Int32 → (Nat → Int32) → Prop) : Prop :=
  wpX7_isSign 116 m_taped m_here m_tape (fun r1 m_here_v1 => ((r1 = 0 → wpX7_isSign 97 m_taped m_here_v1 m_tape (fun r2 m_here_v2 => ((r2 = 0 → (vp_in x1 155 ∧
  wpX7_isWord (gLen.getD 11 0) (fun j => (gByt.getD 11 []).getD j 0) m_taped m_here_v2 m_tape (fun r4 m_here_v4 => ((r4 = 0 → post 0 m_here_v4 (upd m_commands x1.toNatClampNeg 110)) ∧
  (¬ r4 = 0 → wpX7_isNumber 1 (x1 + 1) m_taped m_here_v4 m_tape (upd m_commands x1.toNatClampNeg 110) (fun r5 m_here_v5 m_commands_v5 => ((r5 = 0 → post 0 m_here_v5 m_commands_v5) ∧
  (¬ r5 = 0 → post 1 m_here_v5 m_commands_v5)))))))) ∧
  (¬ r2 = 0 → (vp_in x1 155 ∧
  wpX7_isWord (gLen.getD 10 0) (fun j => (gByt.getD 10 []).getD j 0) m_taped m_here_v2 m_tape (fun r7 m_here_v7 => ((r7 = 0 → post 0 m_here_v7 (upd m_commands x1.toNatClampNeg 83)) ∧
  (¬ r7 = 0 → wpX7_isNumber 3 (x1 + 1) m_taped m_here_v7 m_tape (upd m_commands x1.toNatClampNeg 83) (fun r8 m_here_v8 m_commands_v8 => ((r8 = 0 → post 0 m_here_v8 m_commands_v8) ∧
  (¬ r8 = 0 → post 1 m_here_v8 m_commands_v8))))))))))) ∧
  (¬ r1 = 0 → wpX7_isWord (gLen.getD 9 0) (fun j => (gByt.getD 9 []).getD j 0) m_taped m_here_v1 m_tape (fun r9 m_here_v9 => ((r9 = 0 → post 0 m_here_v9 m_commands) ∧
  (¬ r9 = 0 → wpX7_isNumber 1 (x1 + 1) m_taped m_here_v9 m_tape m_commands (fun r10 m_here_v10 m_commands_v10 => ((r10 = 0 → post 0 m_here_v10 m_commands_v10) ∧
  (¬ r10 = 0 → wpX7_isSign 32 m_taped m_here_v10 m_tape (fun r11 m_here_v11 => ((r11 = 0 → post 0 m_here_v11 m_commands_v10) ∧
  (¬ r11 = 0 → wpX7_isNumber 1 (x1 + 2) m_taped m_here_v11 m_tape m_commands_v10 (fun r12 m_here_v12 m_commands_v12 => ((r12 = 0 → post 0 m_here_v12 m_commands_v12) ∧
  (¬ r12 = 0 → wpX7_isSign 32 m_taped m_here_v12 m_tape (fun r13 m_here_v13 => ((r13 = 0 → post 0 m_here_v13 m_commands_v12) ∧
  (¬ r13 = 0 → wpX7_isClass (x1 + 3) m_taped m_here_v13 m_tape m_commands_v12 (fun r14 m_here_v14 m_commands_v14 => ((r14 = 0 → post 0 m_here_v14 m_commands_v14) ∧
  (¬ r14 = 0 → wpX7_isNumber 1 (x1 + 4) m_taped m_here_v14 m_tape m_commands_v14 (fun r15 m_here_v15 m_commands_v15 => ((r15 = 0 → post 0 m_here_v15 m_commands_v15) ∧
  (¬ r15 = 0 → post 1 m_here_v15 m_commands_v15))))))))))))))))))))))))
def wpX7_readsW (x1 : Int32) (m_taped : Int32) (m_here : Int32) (m_tape : Nat → Int32) (m_commands : Nat → Int32) (post : Int32 → Int32 → (Nat → Int32) → Prop) : Prop :=
  wpX7_isSign 105 m_taped m_here m_tape (fun r1 m_here_v1 => ((r1 = 0 → (vp_in x1 155 ∧
  wpX7_isWord (gLen.getD 13 0) (fun j => (gByt.getD 13 []).getD j 0) m_taped m_here_v1 m_tape (fun r3 m_here_v3 => ((r3 = 0 → post 0 m_here_v3 (upd m_commands x1.toNatClampNeg 116)) ∧
  (¬ r3 = 0 → wpX7_isNumber 3 (x1 + 1) m_taped m_here_v3 m_tape (upd m_commands x1.toNatClampNeg 116) (fun r4 m_here_v4 m_commands_v4 => ((r4 = 0 → post 0 m_here_v4 m_commands_v4) ∧
  (¬ r4 = 0 → post 1 m_here_v4 m_commands_v4)))))))) ∧
  (¬ r1 = 0 → wpX7_isWord (gLen.getD 12 0) (fun j => (gByt.getD 12 []).getD j 0) m_taped m_here_v1 m_tape (fun r5 m_here_v5 => ((r5 = 0 → post 0 m_here_v5 m_commands) ∧
  (¬ r5 = 0 → wpX7_isNumber 1 (x1 + 1) m_taped m_here_v5 m_tape m_commands (fun r6 m_here_v6 m_commands_v6 => ((r6 = 0 → post 0 m_here_v6 m_commands_v6) ∧
  (¬ r6 = 0 → post 1 m_here_v6 m_commands_v6)))))))))
def wpX7_readsRest (x1 : Int32) (x2 : Int32) (m_taped : Int32) (m_here : Int32) (m_tape : Nat → Int32) (m_commands : Nat → Int32) (post : Int32 → Int32 → (Nat → Int32) → Prop) : Prop :=
  ((x1 = 99 → wpX7_isWord (gLen.getD 16 0) (fun j => (gByt.getD 16 []).getD j 0) m_taped m_here m_tape (fun r1 m_here_v1 => ((r1 = 0 → post 0 m_here_v1 m_commands) ∧
  (¬ r1 = 0 → wpX7_isNumber 1 (x2 + 1) m_taped m_here_v1 m_tape m_commands (fun r2 m_here_v2 m_commands_v2 => ((r2 = 0 → post 0 m_here_v2 m_commands_v2) ∧
  (¬ r2 = 0 → post 1 m_here_v2 m_commands_v2))))))) ∧
  (¬ x1 = 99 → ((x1 = 111 → wpX7_isWord (gLen.getD 15 0) (fun j => (gByt.getD 15 []).getD j 0) m_taped m_here m_tape (fun r3 m_here_v3 => ((r3 = 0 → post 0 m_here_v3 m_commands) ∧
  (¬ r3 = 0 → wpX7_isNumber 1 (x2 + 1) m_taped m_here_v3 m_tape m_commands (fun r4 m_here_v4 m_commands_v4 => ((r4 = 0 → post 0 m_here_v4 m_commands_v4) ∧
  (¬ r4 = 0 → wpX7_isSign 32 m_taped m_here_v4 m_tape (fun r5 m_here_v5 => ((r5 = 0 → post 0 m_here_v5 m_commands_v4) ∧
  (¬ r5 = 0 → wpX7_isNumber 3 (x2 + 2) m_taped m_here_v5 m_tape m_commands_v4 (fun r6 m_here_v6 m_commands_v6 => ((r6 = 0 → post 0 m_here_v6 m_commands_v6) ∧
  (¬ r6 = 0 → post 1 m_here_v6 m_commands_v6))))))))))))) ∧
  (¬ x1 = 111 → ((x1 = 112 → wpX7_isWord (gLen.getD 14 0) (fun j => (gByt.getD 14 []).getD j 0) m_taped m_here m_tape (fun r7 m_here_v7 => ((r7 = 0 → post 0 m_here_v7 m_commands) ∧
  (¬ r7 = 0 → wpX7_isNumber 1 (x2 + 1) m_taped m_here_v7 m_tape m_commands (fun r8 m_here_v8 m_commands_v8 => ((r8 = 0 → post 0 m_here_v8 m_commands_v8) ∧
  (¬ r8 = 0 → post 1 m_here_v8 m_commands_v8))))))) ∧
  (¬ x1 = 112 → ((x1 = 115 → wpX7_readsS x2 m_taped m_here m_tape m_commands (fun r9 m_here_v9 m_commands_v9 => (narrow .boolean (.int r9) = .int r9 ∧
  post r9 m_here_v9 m_commands_v9))) ∧
  (¬ x1 = 115 → ((x1 = 119 → wpX7_readsW x2 m_taped m_here m_tape m_commands (fun r11 m_here_v11 m_commands_v11 => (narrow .boolean (.int r11) = .int r11 ∧
  post r11 m_here_v11 m_commands_v11))) ∧
  (¬ x1 = 119 → wpX7_isWord (gLen.getD 17 0) (fun j => (gByt.getD 17 []).getD j 0) m_taped m_here m_tape (fun r13 m_here_v13 => ((r13 = 0 → post 0 m_here_v13 m_commands) ∧
  (¬ r13 = 0 → wpX7_isNumber 3 (x2 + 1) m_taped m_here_v13 m_tape m_commands (fun r14 m_here_v14 m_commands_v14 => ((r14 = 0 → post 0 m_here_v14 m_commands_v14) ∧
  (¬ r14 = 0 → post 1 m_here_v14 m_commands_v14))))))))))))))))
def wpX7_readsCommand (m_taped : Int32) (m_here : Int32) (m_commandMany : Int32) (m_tape : Nat → Int32) (m_commands : Nat → Int32) (post : Int32 → Int32 → Int32 → (Nat → Int32) → Prop) : Prop :=
  wpX7_sign m_taped m_here m_tape (fun r1 => wpX7_isFirst r1 (fun r2 => ((¬ r2 = 0 → (vp_in (5 * m_commandMany) 155 ∧
  wpX7_readsRest r1 (5 * m_commandMany) m_taped (m_here + 1) m_tape (upd m_commands (5 * m_commandMany).toNatClampNeg r1) (fun r4 m_here_v4 m_commands_v4 => (narrow .boolean (.int r4) = .int r4 ∧
  post r4 m_here_v4 (m_commandMany + 1) m_commands_v4)))) ∧
  (r2 = 0 → post 0 m_here m_commandMany m_commands))))
def wpX7_isScript_L36 (m_taped : Int32) (m_tape : Nat → Int32) (post : Int32 → Int32 → Int32 → (Nat → Int32) → Prop) (x1_36 : Int32) (m_here_36 : Int32) (m_commandMany_36 : Int32) (m_commands_36 : Nat → Int32) : Prop :=
  ((x1_36 = 0 → post 0 m_here_36 m_commandMany_36 m_commands_36) ∧
  (¬ x1_36 = 0 → ((¬ m_here_36 = m_taped → post 0 m_here_36 m_commandMany_36 m_commands_36) ∧
  (m_here_36 = m_taped → post 1 m_here_36 m_commandMany_36 m_commands_36))))
def wpX7_isScript_L15 (m_taped : Int32) (m_tape : Nat → Int32) (post : Int32 → Int32 → Int32 → (Nat → Int32) → Prop) : Nat → Int32 → Int32 → Int32 → (Nat → Int32) → Prop
  | 0, _, _, _, _ => False
  | n_15 + 1, x1_15, m_here_15, m_commandMany_15, m_commands_15 =>
  ((x1_15 = 0 → wpX7_isScript_L36 m_taped m_tape post x1_15 m_here_15 m_commandMany_15 m_commands_15) ∧
  (¬ x1_15 = 0 → wpX7_isSign 59 m_taped m_here_15 m_tape (fun r2 m_here_v2 => ((r2 = 0 → wpX7_isScript_L36 m_taped m_tape post x1_15 m_here_v2 m_commandMany_15 m_commands_15) ∧
  (¬ r2 = 0 → wpX7_readsCommand m_taped m_here_v2 m_commandMany_15 m_tape m_commands_15 (fun r3 m_here_v3 m_commandMany_v3 m_commands_v3 => wpX7_isScript_L15 m_taped m_tape post n_15 r3 m_here_v3 m_commandMany_v3 m_commands_v3))))))
def wpX7_isScript (m_taped : Int32) (m_here : Int32) (m_commandMany : Int32) (m_tape : Nat → Int32) (m_commands : Nat → Int32) (post : Int32 → Int32 → Int32 → (Nat → Int32) → Prop) : Prop :=
  wpX7_readsCommand m_taped 0 0 m_tape m_commands (fun r1 m_here_v1 m_commandMany_v1 m_commands_v1 => (∃ n_15, wpX7_isScript_L15 m_taped m_tape post n_15 r1 m_here_v1 m_commandMany_v1 m_commands_v1))
def wpX7_runScript_L43 (m_tape : Nat → Int32) (m_changes_43 : Int32) (m_errorAt_43 : Int32) (m_failedAt_43 : Int32) (m_taped_43 : Int32) (m_here_43 : Int32) (m_commandMany_43 : Int32) (m_was_43 : Nat → Int32) (m_past_43 : Nat → Int32) (m_commands_43 : Nat → Int32) (post : Int32 → Int32 → Int32 → Int32 → Int32 → Int32 → Int32 → Int32 → Int32 → (Nat → Int32) → (Nat → Int32) → (Nat → Int32) → (Nat → Int32) → (Nat → Int32) → (Nat → Int32) → Prop) : Nat → Int32 → Int32 → Int32 → (Nat → Int32) → (Nat → Int32) → (Nat → Int32) → Prop
  | 0, _, _, _, _, _, _ => False
  | n_43 + 1, x2_43, m_thrown_43, m_answer_43, m_s_43, m_far_43, m_drift_43 =>
  ((m_commandMany_43 ≤ x2_43 → wpX7_ends m_commandMany_43 m_changes_43 m_thrown_43 m_was_43 m_past_43 (fun r4 m_changes_v4 m_past_v4 => post r4 m_changes_v4 m_thrown_43 m_errorAt_43 m_failedAt_43 m_answer_43 m_taped_43 m_here_43 m_commandMany_43 m_s_43 m_was_43 m_past_v4 m_far_43 m_drift_43 m_commands_43)) ∧
  (¬ m_commandMany_43 ≤ x2_43 → wpX7_does (5 * x2_43) 0 m_answer_43 m_s_43 m_far_43 m_drift_43 m_commands_43 (fun r5 m_thrown_v5 m_answer_v5 m_s_v5 m_far_v5 m_drift_v5 => ((m_thrown_v5 = 0 → wpX7_runScript_L43 m_tape m_changes_43 m_errorAt_43 m_failedAt_43 m_taped_43 m_here_43 m_commandMany_43 m_was_43 m_past_43 m_commands_43 post n_43 (x2_43 + 1) m_thrown_v5 r5 m_s_v5 m_far_v5 m_drift_v5) ∧
  (¬ m_thrown_v5 = 0 → wpX7_copies 0 0 130 m_was_43 130 m_s_v5 (fun m_s_v6 => post 0 m_changes_43 2 m_errorAt_43 x2_43 r5 m_taped_43 m_here_43 m_commandMany_43 m_s_v6 m_was_43 m_past_43 m_far_v5 m_drift_v5 m_commands_43))))))
def wpX7_runScript_L20 (m_tape : Nat → Int32) (post : Int32 → Int32 → Int32 → Int32 → Int32 → Int32 → Int32 → Int32 → Int32 → (Nat → Int32) → (Nat → Int32) → (Nat → Int32) → (Nat → Int32) → (Nat → Int32) → (Nat → Int32) → Prop) (z1_20 : Int32) (m_changes_20 : Int32) (m_thrown_20 : Int32) (m_errorAt_20 : Int32) (m_failedAt_20 : Int32) (m_answer_20 : Int32) (m_taped_20 : Int32) (m_here_20 : Int32) (m_commandMany_20 : Int32) (m_s_20 : Nat → Int32) (m_was_20 : Nat → Int32) (m_past_20 : Nat → Int32) (m_far_20 : Nat → Int32) (m_drift_20 : Nat → Int32) (m_commands_20 : Nat → Int32) : Prop :=
  wpX7_isThrown z1_20 1 m_thrown_20 (fun r2 m_thrown_v2 => ((r2 = 0 → wpX7_keeps m_thrown_v2 m_s_20 m_was_20 (fun m_thrown_v3 m_was_v3 => (∃ n_43, wpX7_runScript_L43 m_tape m_changes_20 m_errorAt_20 m_failedAt_20 m_taped_20 m_here_20 m_commandMany_20 m_was_v3 m_past_20 m_commands_20 post n_43 0 m_thrown_v3 m_answer_20 m_s_20 m_far_20 m_drift_20))) ∧
  (¬ r2 = 0 → post 0 m_changes_20 m_thrown_v2 m_here_20 m_failedAt_20 m_answer_20 m_taped_20 m_here_20 m_commandMany_20 m_s_20 m_was_20 m_past_20 m_far_20 m_drift_20 m_commands_20)))
def wpX7_runScript (m_changes : Int32) (m_thrown : Int32) (m_errorAt : Int32) (m_failedAt : Int32) (m_answer : Int32) (m_taped : Int32) (m_here : Int32) (m_commandMany : Int32) (m_s : Nat → Int32) (m_was : Nat → Int32) (m_past : Nat → Int32) (m_far : Nat → Int32) (m_drift : Nat → Int32) (m_tape : Nat → Int32) (m_commands : Nat → Int32) (post : Int32 → Int32 → Int32 → Int32 → Int32 → Int32 → Int32 → Int32 → Int32 → (Nat → Int32) → (Nat → Int32) → (Nat → Int32) → (Nat → Int32) → (Nat → Int32) → (Nat → Int32) → Prop) : Prop :=
  wpX7_isScript m_taped m_here m_commandMany m_tape m_commands (fun r1 m_here_v1 m_commandMany_v1 m_commands_v1 => ((¬ r1 = 0 → wpX7_runScript_L20 m_tape post 0 m_changes m_thrown m_errorAt m_failedAt m_answer 0 m_here_v1 m_commandMany_v1 m_s m_was m_past m_far m_drift m_commands_v1) ∧
  (r1 = 0 → wpX7_runScript_L20 m_tape post 1 m_changes m_thrown m_errorAt m_failedAt m_answer 0 m_here_v1 m_commandMany_v1 m_s m_was m_past m_far m_drift m_commands_v1)))
def wpX7_number_d0 (x1 : Int32) (m_lined : Int32) (m_line : Nat → Int32) (post : Int32 → (Nat → Int32) → Prop) : Prop :=
  ((x1 < 10 → wpX7_puts (48 + (x1 - x1 / 10 * 10)) m_lined m_line (fun m_lined_v1 m_line_v1 => post m_lined_v1 m_line_v1)) ∧
  (¬ x1 < 10 → False))
def wpX7_number_d1 (x1 : Int32) (m_lined : Int32) (m_line : Nat → Int32) (post : Int32 → (Nat → Int32) → Prop) : Prop :=
  ((x1 < 10 → wpX7_puts (48 + (x1 - x1 / 10 * 10)) m_lined m_line (fun m_lined_v1 m_line_v1 => post m_lined_v1 m_line_v1)) ∧
  (¬ x1 < 10 → wpX7_number_d0 (x1 / 10) m_lined m_line (fun m_lined_v2 m_line_v2 => wpX7_puts (48 + (x1 - x1 / 10 * 10)) m_lined_v2 m_line_v2 (fun m_lined_v3 m_line_v3 => post m_lined_v3 m_line_v3))))
def wpX7_number_d2 (x1 : Int32) (m_lined : Int32) (m_line : Nat → Int32) (post : Int32 → (Nat → Int32) → Prop) : Prop :=
  ((x1 < 10 → wpX7_puts (48 + (x1 - x1 / 10 * 10)) m_lined m_line (fun m_lined_v1 m_line_v1 => post m_lined_v1 m_line_v1)) ∧
  (¬ x1 < 10 → wpX7_number_d1 (x1 / 10) m_lined m_line (fun m_lined_v2 m_line_v2 => wpX7_puts (48 + (x1 - x1 / 10 * 10)) m_lined_v2 m_line_v2 (fun m_lined_v3 m_line_v3 => post m_lined_v3 m_line_v3))))
def wpX7_renderStreet_L14 (x1 : Int32) (m_s : Nat → Int32) (post : Int32 → Int32 → Int32 → (Nat → Int32) → Prop) (z1_14 : Int32) (m_thrown_14 : Int32) (m_lined_14 : Int32) (m_line_14 : Nat → Int32) : Prop :=
  wpX7_isThrown z1_14 1 m_thrown_14 (fun r2 m_thrown_v2 => ((r2 = 0 → wpX7_number_d2 x1 0 m_line_14 (fun m_lined_v3 m_line_v3 => wpX7_puts 58 m_lined_v3 m_line_v3 (fun m_lined_v4 m_line_v4 => wpX7_of x1 0 m_s (fun r5 => wpX7_number_d2 r5 m_lined_v4 m_line_v4 (fun m_lined_v6 m_line_v6 => wpX7_puts 45 m_lined_v6 m_line_v6 (fun m_lined_v7 m_line_v7 => wpX7_of x1 1 m_s (fun r8 => wpX7_number_d2 r8 m_lined_v7 m_line_v7 (fun m_lined_v9 m_line_v9 => wpX7_of x1 2 m_s (fun r10 => wpX7_puts r10 m_lined_v9 m_line_v9 (fun m_lined_v11 m_line_v11 => wpX7_of x1 4 m_s (fun r12 => wpX7_number_d2 r12 m_lined_v11 m_line_v11 (fun m_lined_v13 m_line_v13 => wpX7_puts 99 m_lined_v13 m_line_v13 (fun m_lined_v14 m_line_v14 => wpX7_puts 109 m_lined_v14 m_line_v14 (fun m_lined_v15 m_line_v15 => wpX7_salted x1 m_s (fun r16 => ((r16 = 0 → post m_lined_v15 m_thrown_v2 m_lined_v15 m_line_v15) ∧
  (¬ r16 = 0 → wpX7_puts 42 m_lined_v15 m_line_v15 (fun m_lined_v17 m_line_v17 => post m_lined_v17 m_thrown_v2 m_lined_v17 m_line_v17)))))))))))))))))) ∧
  (¬ r2 = 0 → post 0 m_thrown_v2 m_lined_14 m_line_14)))
def wpX7_renderStreet (x1 : Int32) (m_thrown : Int32) (m_lined : Int32) (m_s : Nat → Int32) (m_line : Nat → Int32) (post : Int32 → Int32 → Int32 → (Nat → Int32) → Prop) : Prop :=
  wpX7_isStreet x1 m_s (fun r1 => ((¬ r1 = 0 → wpX7_renderStreet_L14 x1 m_s post 0 m_thrown m_lined m_line) ∧
  (r1 = 0 → wpX7_renderStreet_L14 x1 m_s post 1 m_thrown m_lined m_line)))
def wpX7_renderQueue_L50 (x1 : Int32) (m_thrown_30 : Int32) (m_s : Nat → Int32) (k30 : Int32 → Int32 → (Nat → Int32) → Prop) (post : Int32 → Int32 → Int32 → (Nat → Int32) → Prop) (x2_50 : Int32) (m_lined_50 : Int32) (m_line_50 : Nat → Int32) : Prop :=
  wpX7_ofPlough x1 (4 + x2_50) m_s (fun r4 => wpX7_number_d2 r4 m_lined_50 m_line_50 (fun m_lined_v5 m_line_v5 => k30 (x2_50 + 1) m_lined_v5 m_line_v5))
def wpX7_renderQueue_L30 (x1 : Int32) (m_s : Nat → Int32) (m_thrown_30 : Int32) (post : Int32 → Int32 → Int32 → (Nat → Int32) → Prop) : Nat → Int32 → Int32 → (Nat → Int32) → Prop
  | 0, _, _, _ => False
  | n_30 + 1, x2_30, m_lined_30, m_line_30 =>
  wpX7_ofPlough x1 3 m_s (fun r3 => ((r3 ≤ x2_30 → post m_lined_30 m_thrown_30 m_lined_30 m_line_30) ∧
  (¬ r3 ≤ x2_30 → ((x2_30 ≤ 0 → wpX7_renderQueue_L50 x1 m_thrown_30 m_s (fun v1 v2 v3 => wpX7_renderQueue_L30 x1 m_s m_thrown_30 post n_30 v1 v2 v3) post x2_30 m_lined_30 m_line_30) ∧
  (¬ x2_30 ≤ 0 → wpX7_puts 44 m_lined_30 m_line_30 (fun m_lined_v6 m_line_v6 => wpX7_renderQueue_L50 x1 m_thrown_30 m_s (fun v1 v2 v3 => wpX7_renderQueue_L30 x1 m_s m_thrown_30 post n_30 v1 v2 v3) post x2_30 m_lined_v6 m_line_v6))))))
def wpX7_renderQueue_L14 (x1 : Int32) (m_s : Nat → Int32) (post : Int32 → Int32 → Int32 → (Nat → Int32) → Prop) (z1_14 : Int32) (m_thrown_14 : Int32) (m_lined_14 : Int32) (m_line_14 : Nat → Int32) : Prop :=
  wpX7_isThrown z1_14 1 m_thrown_14 (fun r2 m_thrown_v2 => ((r2 = 0 → (∃ n_30, wpX7_renderQueue_L30 x1 m_s m_thrown_v2 post n_30 0 0 m_line_14)) ∧
  (¬ r2 = 0 → post 0 m_thrown_v2 m_lined_14 m_line_14)))
def wpX7_renderQueue (x1 : Int32) (m_thrown : Int32) (m_lined : Int32) (m_s : Nat → Int32) (m_line : Nat → Int32) (post : Int32 → Int32 → Int32 → (Nat → Int32) → Prop) : Prop :=
  wpX7_isPlough x1 m_s (fun r1 => ((¬ r1 = 0 → wpX7_renderQueue_L14 x1 m_s post 0 m_thrown m_lined m_line) ∧
  (r1 = 0 → wpX7_renderQueue_L14 x1 m_s post 1 m_thrown m_lined m_line)))
