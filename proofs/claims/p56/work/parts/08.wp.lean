/-! what each method asks and gives, in numbers alone: by program (wip/whole/gen) -/
def wpX6_isJunction (x0 : Int32) (post : Int32 → Prop) : Prop :=
  ((x0 < 0 → post 0) ∧
  (¬ x0 < 0 → ((8 ≤ x0 → post 0) ∧
  (¬ 8 ≤ x0 → post 1))))
def wpX4_has (x1 : Int32) (s_count : Int32) (post : Int32 → Prop) : Prop :=
  ((x1 < 0 → post 0) ∧
  (¬ x1 < 0 → ((s_count ≤ x1 → post 0) ∧
  (¬ s_count ≤ x1 → ((12 ≤ x1 → post 0) ∧
  (¬ 12 ≤ x1 → post 1))))))
def wpX4_copyFrom (s_lower : Nat → Int32) (s_higher : Nat → Int32) (s_kind : Nat → Int32) (s_size : Nat → Int32) (s_snow : Nat → Int32) (s_saltEnd : Nat → Int32) (s_complained : Nat → Int32) (s_clearings : Nat → Int32) (s_count : Int32) (s_lowero : Nat → Int32) (s_highero : Nat → Int32) (s_kindo : Nat → Int32) (s_sizeo : Nat → Int32) (s_snowo : Nat → Int32) (s_saltEndo : Nat → Int32) (s_complainedo : Nat → Int32) (s_clearingso : Nat → Int32) (s_counto : Int32) (post : (Nat → Int32) → (Nat → Int32) → (Nat → Int32) → (Nat → Int32) → (Nat → Int32) → (Nat → Int32) → (Nat → Int32) → (Nat → Int32) → Int32 → Prop) : Prop :=
  ((∀ i, i < (12 : Int32).toNatClampNeg → fits .char (.int (s_kindo ((0 : Int32).toNatClampNeg + i))) = true) ∧
  post (va_cpy s_lowero s_lower (0 : Int32).toNatClampNeg (0 : Int32).toNatClampNeg (12 : Int32).toNatClampNeg) (va_cpy s_highero s_higher (0 : Int32).toNatClampNeg (0 : Int32).toNatClampNeg (12 : Int32).toNatClampNeg) (va_cpy s_kindo s_kind (0 : Int32).toNatClampNeg (0 : Int32).toNatClampNeg (12 : Int32).toNatClampNeg) (va_cpy s_sizeo s_size (0 : Int32).toNatClampNeg (0 : Int32).toNatClampNeg (12 : Int32).toNatClampNeg) (va_cpy s_snowo s_snow (0 : Int32).toNatClampNeg (0 : Int32).toNatClampNeg (12 : Int32).toNatClampNeg) (va_cpy s_saltEndo s_saltEnd (0 : Int32).toNatClampNeg (0 : Int32).toNatClampNeg (12 : Int32).toNatClampNeg) (va_cpy s_complainedo s_complained (0 : Int32).toNatClampNeg (0 : Int32).toNatClampNeg (12 : Int32).toNatClampNeg) (va_cpy s_clearingso s_clearings (0 : Int32).toNatClampNeg (0 : Int32).toNatClampNeg (12 : Int32).toNatClampNeg) s_counto)
def wpX4_areConnected_L2 (x1 : Int32) (x2 : Int32) (s_lower : Nat → Int32) (s_higher : Nat → Int32) (s_count : Int32) (post : Int32 → Prop) : Nat → Int32 → Prop
  | 0, _ => False
  | n_2 + 1, x3_2 =>
  ((s_count ≤ x3_2 → post 0) ∧
  (¬ s_count ≤ x3_2 → ((12 ≤ x3_2 → post 0) ∧
  (¬ 12 ≤ x3_2 → (vp_in x3_2 12 ∧
  ((¬ (s_lower x3_2.toNatClampNeg) = x1 → wpX4_areConnected_L2 x1 x2 s_lower s_higher s_count post n_2 (x3_2 + 1)) ∧
  ((s_lower x3_2.toNatClampNeg) = x1 → (vp_in x3_2 12 ∧
  ((¬ (s_higher x3_2.toNatClampNeg) = x2 → wpX4_areConnected_L2 x1 x2 s_lower s_higher s_count post n_2 (x3_2 + 1)) ∧
  ((s_higher x3_2.toNatClampNeg) = x2 → post 1))))))))))
def wpX4_areConnected (x1 : Int32) (x2 : Int32) (s_lower : Nat → Int32) (s_higher : Nat → Int32) (s_count : Int32) (post : Int32 → Prop) : Prop :=
  (∃ n_2, wpX4_areConnected_L2 x1 x2 s_lower s_higher s_count post n_2 0)
def wpX4_put (x1 : Int32) (x2 : Int32) (x3 : Int32) (x4 : Int32) (s_lower : Nat → Int32) (s_higher : Nat → Int32) (s_kind : Nat → Int32) (s_size : Nat → Int32) (s_snow : Nat → Int32) (s_saltEnd : Nat → Int32) (s_complained : Nat → Int32) (s_clearings : Nat → Int32) (s_count : Int32) (post : Int32 → (Nat → Int32) → (Nat → Int32) → (Nat → Int32) → (Nat → Int32) → (Nat → Int32) → (Nat → Int32) → (Nat → Int32) → (Nat → Int32) → Int32 → Prop) : Prop :=
  ((s_count < 0 → post (-4) s_lower s_higher s_kind s_size s_snow s_saltEnd s_complained s_clearings s_count) ∧
  (¬ s_count < 0 → ((s_count < 12 → (vp_in s_count 12 ∧
  (vp_in s_count 12 ∧
  (vp_in s_count 12 ∧
  (vp_in s_count 12 ∧
  (vp_in s_count 12 ∧
  (vp_in s_count 12 ∧
  (vp_in s_count 12 ∧
  (vp_in s_count 12 ∧
  post s_count (upd s_lower s_count.toNatClampNeg x1) (upd s_higher s_count.toNatClampNeg x2) (upd s_kind s_count.toNatClampNeg (vp_nar .char x3)) (upd s_size s_count.toNatClampNeg x4) (upd s_snow s_count.toNatClampNeg 0) (upd s_saltEnd s_count.toNatClampNeg 0) (upd s_complained s_count.toNatClampNeg 0) (upd s_clearings s_count.toNatClampNeg 0) (s_count + 1)))))))))) ∧
  (¬ s_count < 12 → post (-4) s_lower s_higher s_kind s_size s_snow s_saltEnd s_complained s_clearings s_count))))
def wpX4_otherEnd (x1 : Int32) (x2 : Int32) (s_lower : Nat → Int32) (s_higher : Nat → Int32) (post : Int32 → Prop) : Prop :=
  ((x1 < 0 → post (-1)) ∧
  (¬ x1 < 0 → ((x1 < 12 → (vp_in x1 12 ∧
  ((¬ (s_lower x1.toNatClampNeg) = x2 → (vp_in x1 12 ∧
  ((¬ (s_higher x1.toNatClampNeg) = x2 → post (-1)) ∧
  ((s_higher x1.toNatClampNeg) = x2 → (vp_in x1 12 ∧
  post (s_lower x1.toNatClampNeg)))))) ∧
  ((s_lower x1.toNatClampNeg) = x2 → (vp_in x1 12 ∧
  post (s_higher x1.toNatClampNeg)))))) ∧
  (¬ x1 < 12 → post (-1)))))
def wpX4_excess (x1 : Int32) (s_kind : Nat → Int32) (s_snow : Nat → Int32) (s_count : Int32) (post : Int32 → Prop) : Prop :=
  wpX4_has x1 s_count (fun r1 => ((¬ r1 = 0 → (vp_in x1 12 ∧
  ((¬ (s_kind x1.toNatClampNeg) = 97 → (vp_in x1 12 ∧
  ((¬ (s_kind x1.toNatClampNeg) = 98 → (vp_in x1 12 ∧
  post ((s_snow x1.toNatClampNeg) - 15))) ∧
  ((s_kind x1.toNatClampNeg) = 98 → (vp_in x1 12 ∧
  post ((s_snow x1.toNatClampNeg) - 10)))))) ∧
  ((s_kind x1.toNatClampNeg) = 97 → (vp_in x1 12 ∧
  post ((s_snow x1.toNatClampNeg) - 5)))))) ∧
  (r1 = 0 → post 0)))
def wpX4_saltLeft (x1 : Int32) (x2 : Int32) (s_saltEnd : Nat → Int32) (s_count : Int32) (post : Int32 → Prop) : Prop :=
  wpX4_has x1 s_count (fun r1 => ((r1 = 0 → post 0) ∧
  (¬ r1 = 0 → (vp_in x1 12 ∧
  post ((s_saltEnd x1.toNatClampNeg) - x2)))))
def wpX4_timesCleared (x1 : Int32) (s_clearings : Nat → Int32) (s_count : Int32) (post : Int32 → Prop) : Prop :=
  wpX4_has x1 s_count (fun r1 => ((r1 = 0 → post 0) ∧
  (¬ r1 = 0 → (vp_in x1 12 ∧
  post (s_clearings x1.toNatClampNeg)))))
def wpX4_precedes (x1 : Int32) (x2 : Int32) (s_kind : Nat → Int32) (s_snow : Nat → Int32) (s_count : Int32) (post : Int32 → Prop) : Prop :=
  wpX4_has x1 s_count (fun r1 => ((r1 = 0 → post 0) ∧
  (¬ r1 = 0 → wpX4_has x2 s_count (fun r2 => ((¬ r2 = 0 → wpX4_excess x1 s_kind s_snow s_count (fun r3 => wpX4_excess x2 s_kind s_snow s_count (fun r4 => ((r3 = r4 → (vp_in x1 12 ∧
  (vp_in x2 12 ∧
  (((s_kind x1.toNatClampNeg) = (s_kind x2.toNatClampNeg) → ((x2 ≤ x1 → post 0) ∧
  (¬ x2 ≤ x1 → post 1))) ∧
  (¬ (s_kind x1.toNatClampNeg) = (s_kind x2.toNatClampNeg) → (vp_in x1 12 ∧
  (vp_in x2 12 ∧
  (((s_kind x2.toNatClampNeg) ≤ (s_kind x1.toNatClampNeg) → post 0) ∧
  (¬ (s_kind x2.toNatClampNeg) ≤ (s_kind x1.toNatClampNeg) → post 1))))))))) ∧
  (¬ r3 = r4 → wpX4_excess x1 s_kind s_snow s_count (fun r9 => wpX4_excess x2 s_kind s_snow s_count (fun r10 => ((r9 ≤ r10 → post 0) ∧
  (¬ r9 ≤ r10 → post 1))))))))) ∧
  (r2 = 0 → post 0))))))
def wpX4_rankOf_L4 (x1 : Int32) (s_kind : Nat → Int32) (s_snow : Nat → Int32) (s_count : Int32) (post : Int32 → Prop) : Nat → Int32 → Int32 → Prop
  | 0, _, _ => False
  | n_4 + 1, x2_4, x3_4 =>
  ((s_count ≤ x3_4 → post x2_4) ∧
  (¬ s_count ≤ x3_4 → wpX4_precedes x3_4 x1 s_kind s_snow s_count (fun r1 => ((r1 = 0 → wpX4_rankOf_L4 x1 s_kind s_snow s_count post n_4 x2_4 (x3_4 + 1)) ∧
  (¬ r1 = 0 → wpX4_rankOf_L4 x1 s_kind s_snow s_count post n_4 (x2_4 + 1) (x3_4 + 1))))))
def wpX4_rankOf (x1 : Int32) (s_kind : Nat → Int32) (s_snow : Nat → Int32) (s_count : Int32) (post : Int32 → Prop) : Prop :=
  (∃ n_4, wpX4_rankOf_L4 x1 s_kind s_snow s_count post n_4 0 0)
def wpX4_atRank_L2 (x1 : Int32) (s_kind : Nat → Int32) (s_snow : Nat → Int32) (s_count : Int32) (post : Int32 → Prop) : Nat → Int32 → Prop
  | 0, _ => False
  | n_2 + 1, x2_2 =>
  ((s_count ≤ x2_2 → post (-1)) ∧
  (¬ s_count ≤ x2_2 → wpX4_rankOf x2_2 s_kind s_snow s_count (fun r1 => ((¬ r1 = x1 → wpX4_atRank_L2 x1 s_kind s_snow s_count post n_2 (x2_2 + 1)) ∧
  (r1 = x1 → post x2_2)))))
def wpX4_atRank (x1 : Int32) (s_kind : Nat → Int32) (s_snow : Nat → Int32) (s_count : Int32) (post : Int32 → Prop) : Prop :=
  (∃ n_2, wpX4_atRank_L2 x1 s_kind s_snow s_count post n_2 0)
def wpX4_snowSum_L4 (s_snow : Nat → Int32) (s_count : Int32) (post : Int32 → Prop) : Nat → Int32 → Int32 → Prop
  | 0, _, _ => False
  | n_4 + 1, x1_4, x2_4 =>
  ((s_count ≤ x2_4 → post x1_4) ∧
  (¬ s_count ≤ x2_4 → ((12 ≤ x2_4 → post x1_4) ∧
  (¬ 12 ≤ x2_4 → (vp_in x2_4 12 ∧
  wpX4_snowSum_L4 s_snow s_count post n_4 (x1_4 + (s_snow x2_4.toNatClampNeg)) (x2_4 + 1))))))
def wpX4_snowSum (s_snow : Nat → Int32) (s_count : Int32) (post : Int32 → Prop) : Prop :=
  (∃ n_4, wpX4_snowSum_L4 s_snow s_count post n_4 0 0)
def wpX4_saltedCount_L4 (x1 : Int32) (s_saltEnd : Nat → Int32) (s_count : Int32) (post : Int32 → Prop) : Nat → Int32 → Int32 → Prop
  | 0, _, _ => False
  | n_4 + 1, x2_4, x3_4 =>
  ((s_count ≤ x3_4 → post x2_4) ∧
  (¬ s_count ≤ x3_4 → wpX4_saltLeft x3_4 x1 s_saltEnd s_count (fun r1 => ((r1 ≤ 0 → wpX4_saltedCount_L4 x1 s_saltEnd s_count post n_4 x2_4 (x3_4 + 1)) ∧
  (¬ r1 ≤ 0 → wpX4_saltedCount_L4 x1 s_saltEnd s_count post n_4 (x2_4 + 1) (x3_4 + 1))))))
def wpX4_saltedCount (x1 : Int32) (s_saltEnd : Nat → Int32) (s_count : Int32) (post : Int32 → Prop) : Prop :=
  (∃ n_4, wpX4_saltedCount_L4 x1 s_saltEnd s_count post n_4 0 0)
def wpX4_complaintSum_L4 (s_complained : Nat → Int32) (s_count : Int32) (post : Int32 → Prop) : Nat → Int32 → Int32 → Prop
  | 0, _, _ => False
  | n_4 + 1, x1_4, x2_4 =>
  ((s_count ≤ x2_4 → post x1_4) ∧
  (¬ s_count ≤ x2_4 → ((12 ≤ x2_4 → post x1_4) ∧
  (¬ 12 ≤ x2_4 → (vp_in x2_4 12 ∧
  wpX4_complaintSum_L4 s_complained s_count post n_4 (x1_4 + (s_complained x2_4.toNatClampNeg)) (x2_4 + 1))))))
def wpX4_complaintSum (s_complained : Nat → Int32) (s_count : Int32) (post : Int32 → Prop) : Prop :=
  (∃ n_4, wpX4_complaintSum_L4 s_complained s_count post n_4 0 0)
def wpX4_depthsAllowed_L2 (s_snow : Nat → Int32) (s_count : Int32) (post : Int32 → Prop) : Nat → Int32 → Prop
  | 0, _ => False
  | n_2 + 1, x1_2 =>
  ((s_count ≤ x1_2 → post 1) ∧
  (¬ s_count ≤ x1_2 → ((12 ≤ x1_2 → post 1) ∧
  (¬ 12 ≤ x1_2 → (vp_in x1_2 12 ∧
  (((s_snow x1_2.toNatClampNeg) < 0 → post 0) ∧
  (¬ (s_snow x1_2.toNatClampNeg) < 0 → (vp_in x1_2 12 ∧
  (((s_snow x1_2.toNatClampNeg) ≤ 200 → wpX4_depthsAllowed_L2 s_snow s_count post n_2 (x1_2 + 1)) ∧
  (¬ (s_snow x1_2.toNatClampNeg) ≤ 200 → post 0))))))))))
def wpX4_depthsAllowed (s_snow : Nat → Int32) (s_count : Int32) (post : Int32 → Prop) : Prop :=
  (∃ n_2, wpX4_depthsAllowed_L2 s_snow s_count post n_2 0)
def wpX4_fall_L2 (x1 : Int32) (s_count : Int32) (post : (Nat → Int32) → Prop) : Nat → Int32 → (Nat → Int32) → Prop
  | 0, _, _ => False
  | n_2 + 1, x2_2, s_snow_2 =>
  ((s_count ≤ x2_2 → post s_snow_2) ∧
  (¬ s_count ≤ x2_2 → ((12 ≤ x2_2 → post s_snow_2) ∧
  (¬ 12 ≤ x2_2 → (vp_in x2_2 12 ∧
  (vp_in x2_2 12 ∧
  wpX4_fall_L2 x1 s_count post n_2 (x2_2 + 1) (upd s_snow_2 x2_2.toNatClampNeg (if 200 < ((s_snow_2 x2_2.toNatClampNeg) + x1) then 200 else ((s_snow_2 x2_2.toNatClampNeg) + x1)))))))))
def wpX4_fall (x1 : Int32) (s_snow : Nat → Int32) (s_count : Int32) (post : (Nat → Int32) → Prop) : Prop :=
  (∃ n_2, wpX4_fall_L2 x1 s_count post n_2 0 s_snow)
def wpX4_melt_L2 (x1 : Int32) (s_saltEnd : Nat → Int32) (s_count : Int32) (post : (Nat → Int32) → Prop) : Nat → Int32 → (Nat → Int32) → Prop
  | 0, _, _ => False
  | n_2 + 1, x2_2, s_snow_2 =>
  ((s_count ≤ x2_2 → post s_snow_2) ∧
  (¬ s_count ≤ x2_2 → ((12 ≤ x2_2 → post s_snow_2) ∧
  (¬ 12 ≤ x2_2 → (vp_in x2_2 12 ∧
  (((s_saltEnd x2_2.toNatClampNeg) ≤ x1 → wpX4_melt_L2 x1 s_saltEnd s_count post n_2 (x2_2 + 1) s_snow_2) ∧
  (¬ (s_saltEnd x2_2.toNatClampNeg) ≤ x1 → (vp_in x2_2 12 ∧
  (vp_in x2_2 12 ∧
  wpX4_melt_L2 x1 s_saltEnd s_count post n_2 (x2_2 + 1) (upd s_snow_2 x2_2.toNatClampNeg (if ((s_snow_2 x2_2.toNatClampNeg) - 3) < 0 then 0 else ((s_snow_2 x2_2.toNatClampNeg) - 3))))))))))))
def wpX4_melt (x1 : Int32) (s_snow : Nat → Int32) (s_saltEnd : Nat → Int32) (s_count : Int32) (post : (Nat → Int32) → Prop) : Prop :=
  (∃ n_2, wpX4_melt_L2 x1 s_saltEnd s_count post n_2 0 s_snow)
def wpX4_drift_L42 (x1 : Int32) (s_count : Int32) (post : (Nat → Int32) → Prop) : Nat → Int32 → Int32 → (Nat → Int32) → Prop
  | 0, _, _, _ => False
  | n_42 + 1, x2_42, x3_42, s_snow_42 =>
  ((s_count ≤ x3_42 → post s_snow_42) ∧
  (¬ s_count ≤ x3_42 → ((12 ≤ x3_42 → post s_snow_42) ∧
  (¬ 12 ≤ x3_42 → (vp_in x3_42 12 ∧
  (vp_in x3_42 12 ∧
  (vp_in x3_42 12 ∧
  wpX4_drift_L42 x1 s_count post n_42 (if ((s_snow_42 x3_42.toNatClampNeg) / 4) < x1 then ((s_snow_42 x3_42.toNatClampNeg) / 4) else x1) (x3_42 + 1) (upd s_snow_42 x3_42.toNatClampNeg (if 200 < (((s_snow_42 x3_42.toNatClampNeg) - (if ((s_snow_42 x3_42.toNatClampNeg) / 4) < x1 then ((s_snow_42 x3_42.toNatClampNeg) / 4) else x1)) + x2_42) then 200 else (((s_snow_42 x3_42.toNatClampNeg) - (if ((s_snow_42 x3_42.toNatClampNeg) / 4) < x1 then ((s_snow_42 x3_42.toNatClampNeg) / 4) else x1)) + x2_42))))))))))
def wpX4_drift (x1 : Int32) (s_snow : Nat → Int32) (s_count : Int32) (post : (Nat → Int32) → Prop) : Prop :=
  ((s_count < 2 → post s_snow) ∧
  (¬ s_count < 2 → wpX4_has (s_count - 1) s_count (fun r1 => ((¬ r1 = 0 → (vp_in (s_count - 1) 12 ∧
  (∃ n_42, wpX4_drift_L42 x1 s_count post n_42 (if ((s_snow (s_count - 1).toNatClampNeg) / 4) < x1 then ((s_snow (s_count - 1).toNatClampNeg) / 4) else x1) 0 s_snow))) ∧
  (r1 = 0 → post s_snow)))))
def wpX4_complain_L4 (s_kind : Nat → Int32) (s_snow : Nat → Int32) (s_count : Int32) (post : Int32 → (Nat → Int32) → Prop) : Nat → Int32 → Int32 → (Nat → Int32) → Prop
  | 0, _, _, _ => False
  | n_4 + 1, x1_4, x2_4, s_complained_4 =>
  ((s_count ≤ x2_4 → post x1_4 s_complained_4) ∧
  (¬ s_count ≤ x2_4 → ((12 ≤ x2_4 → post x1_4 s_complained_4) ∧
  (¬ 12 ≤ x2_4 → wpX4_excess x2_4 s_kind s_snow s_count (fun r1 => ((r1 ≤ 0 → wpX4_complain_L4 s_kind s_snow s_count post n_4 x1_4 (x2_4 + 1) s_complained_4) ∧
  (¬ r1 ≤ 0 → (vp_in x2_4 12 ∧
  (vp_in x2_4 12 ∧
  wpX4_complain_L4 s_kind s_snow s_count post n_4 (x1_4 + 1) (x2_4 + 1) (upd s_complained_4 x2_4.toNatClampNeg ((s_complained_4 x2_4.toNatClampNeg) + 1)))))))))))
def wpX4_complain (s_kind : Nat → Int32) (s_snow : Nat → Int32) (s_complained : Nat → Int32) (s_count : Int32) (post : Int32 → (Nat → Int32) → Prop) : Prop :=
  (∃ n_4, wpX4_complain_L4 s_kind s_snow s_count post n_4 0 0 s_complained)
def wpX2_has (x1 : Int32) (q_count : Int32) (post : Int32 → Prop) : Prop :=
  ((x1 < 0 → post 0) ∧
  (¬ x1 < 0 → ((q_count ≤ x1 → post 0) ∧
  (¬ q_count ≤ x1 → ((4 ≤ x1 → post 0) ∧
  (¬ 4 ≤ x1 → post 1))))))
def wpX2_copyFrom (q_place : Nat → Int32) (q_target : Nat → Int32) (q_minutesLeft : Nat → Int32) (q_waiting : Nat → Int32) (q_orders : Nat → Int32) (q_count : Int32) (q_placeo : Nat → Int32) (q_targeto : Nat → Int32) (q_minutesLefto : Nat → Int32) (q_waitingo : Nat → Int32) (q_orderso : Nat → Int32) (q_counto : Int32) (post : (Nat → Int32) → (Nat → Int32) → (Nat → Int32) → (Nat → Int32) → (Nat → Int32) → Int32 → Prop) : Prop :=
  post (va_cpy q_placeo q_place (0 : Int32).toNatClampNeg (0 : Int32).toNatClampNeg (4 : Int32).toNatClampNeg) (va_cpy q_targeto q_target (0 : Int32).toNatClampNeg (0 : Int32).toNatClampNeg (4 : Int32).toNatClampNeg) (va_cpy q_minutesLefto q_minutesLeft (0 : Int32).toNatClampNeg (0 : Int32).toNatClampNeg (4 : Int32).toNatClampNeg) (va_cpy q_waitingo q_waiting (0 : Int32).toNatClampNeg (0 : Int32).toNatClampNeg (4 : Int32).toNatClampNeg) (va_cpy q_orderso q_orders (0 : Int32).toNatClampNeg (0 : Int32).toNatClampNeg (20 : Int32).toNatClampNeg) q_counto
def wpX2_put (x1 : Int32) (q_place : Nat → Int32) (q_target : Nat → Int32) (q_minutesLeft : Nat → Int32) (q_waiting : Nat → Int32) (q_count : Int32) (post : Int32 → (Nat → Int32) → (Nat → Int32) → (Nat → Int32) → (Nat → Int32) → Int32 → Prop) : Prop :=
  ((q_count < 0 → post (-4) q_place q_target q_minutesLeft q_waiting q_count) ∧
  (¬ q_count < 0 → ((q_count < 4 → (vp_in q_count 4 ∧
  (vp_in q_count 4 ∧
  (vp_in q_count 4 ∧
  (vp_in q_count 4 ∧
  post q_count (upd q_place q_count.toNatClampNeg x1) (upd q_target q_count.toNatClampNeg (-1)) (upd q_minutesLeft q_count.toNatClampNeg 0) (upd q_waiting q_count.toNatClampNeg 0) (q_count + 1)))))) ∧
  (¬ q_count < 4 → post (-4) q_place q_target q_minutesLeft q_waiting q_count))))
def wpX2_waitingAt (x1 : Int32) (x2 : Int32) (q_waiting : Nat → Int32) (q_orders : Nat → Int32) (q_count : Int32) (post : Int32 → Prop) : Prop :=
  wpX2_has x1 q_count (fun r1 => ((r1 = 0 → post (-1)) ∧
  (¬ r1 = 0 → ((x2 < 0 → post (-1)) ∧
  (¬ x2 < 0 → (vp_in x1 4 ∧
  (((q_waiting x1.toNatClampNeg) ≤ x2 → post (-1)) ∧
  (¬ (q_waiting x1.toNatClampNeg) ≤ x2 → ((x2 < 5 → (vp_in ((x1 * 5) + x2) 20 ∧
  post (q_orders ((x1 * 5) + x2).toNatClampNeg))) ∧
  (¬ x2 < 5 → post (-1)))))))))))
def wpX2_append (x1 : Int32) (x2 : Int32) (q_waiting : Nat → Int32) (q_orders : Nat → Int32) (q_count : Int32) (post : Int32 → (Nat → Int32) → (Nat → Int32) → Prop) : Prop :=
  wpX2_has x1 q_count (fun r1 => ((¬ r1 = 0 → (vp_in x1 4 ∧
  (((q_waiting x1.toNatClampNeg) < 0 → post (-4) q_waiting q_orders) ∧
  (¬ (q_waiting x1.toNatClampNeg) < 0 → (((q_waiting x1.toNatClampNeg) < 5 → (vp_in ((x1 * 5) + (q_waiting x1.toNatClampNeg)) 20 ∧
  (vp_in x1 4 ∧
  (vp_in x1 4 ∧
  (vp_in x1 4 ∧
  post ((upd q_waiting x1.toNatClampNeg ((q_waiting x1.toNatClampNeg) + 1)) x1.toNatClampNeg) (upd q_waiting x1.toNatClampNeg ((q_waiting x1.toNatClampNeg) + 1)) (upd q_orders ((x1 * 5) + (q_waiting x1.toNatClampNeg)).toNatClampNeg x2)))))) ∧
  (¬ (q_waiting x1.toNatClampNeg) < 5 → post (-4) q_waiting q_orders)))))) ∧
  (r1 = 0 → post (-1) q_waiting q_orders)))
def wpX2_removeLast (x1 : Int32) (q_waiting : Nat → Int32) (q_orders : Nat → Int32) (q_count : Int32) (post : Int32 → (Nat → Int32) → Prop) : Prop :=
  wpX2_has x1 q_count (fun r1 => ((¬ r1 = 0 → (vp_in x1 4 ∧
  wpX2_waitingAt x1 ((q_waiting x1.toNatClampNeg) - 1) q_waiting q_orders q_count (fun r3 => ((0 ≤ r3 → (vp_in x1 4 ∧
  (vp_in x1 4 ∧
  post r3 (upd q_waiting x1.toNatClampNeg ((q_waiting x1.toNatClampNeg) - 1))))) ∧
  (¬ 0 ≤ r3 → post (-5) q_waiting))))) ∧
  (r1 = 0 → post (-1) q_waiting)))
def wpX2_canBegin (x1 : Int32) (q_minutesLeft : Nat → Int32) (q_waiting : Nat → Int32) (q_count : Int32) (post : Int32 → Prop) : Prop :=
  wpX2_has x1 q_count (fun r1 => ((r1 = 0 → post 0) ∧
  (¬ r1 = 0 → (vp_in x1 4 ∧
  ((¬ (q_minutesLeft x1.toNatClampNeg) = 0 → post 0) ∧
  ((q_minutesLeft x1.toNatClampNeg) = 0 → (vp_in x1 4 ∧
  (((q_waiting x1.toNatClampNeg) ≤ 0 → post 0) ∧
  (¬ (q_waiting x1.toNatClampNeg) ≤ 0 → post 1)))))))))
def wpX2_removeFirst_L28 (x1 : Int32) (q_count : Int32) (x2_28 : Int32) (x3_28 : Int32) (q_waiting_28 : Nat → Int32) (post : Int32 → (Nat → Int32) → (Nat → Int32) → Prop) : Nat → Int32 → (Nat → Int32) → Prop
  | 0, _, _ => False
  | n_28 + 1, x4_28, q_orders_28 =>
  ((5 ≤ x4_28 → (vp_in x1 4 ∧
  (vp_in x1 4 ∧
  post x2_28 (upd q_waiting_28 x1.toNatClampNeg ((q_waiting_28 x1.toNatClampNeg) - 1)) q_orders_28))) ∧
  (¬ 5 ≤ x4_28 → (vp_in (x3_28 + x4_28) 20 ∧
  (vp_in ((x3_28 + x4_28) - 1) 20 ∧
  wpX2_removeFirst_L28 x1 q_count x2_28 x3_28 q_waiting_28 post n_28 (x4_28 + 1) (upd q_orders_28 ((x3_28 + x4_28) - 1).toNatClampNeg (q_orders_28 (x3_28 + x4_28).toNatClampNeg))))))
def wpX2_removeFirst (x1 : Int32) (q_waiting : Nat → Int32) (q_orders : Nat → Int32) (q_count : Int32) (post : Int32 → (Nat → Int32) → (Nat → Int32) → Prop) : Prop :=
  wpX2_waitingAt x1 0 q_waiting q_orders q_count (fun r1 => wpX2_has x1 q_count (fun r2 => ((r2 = 0 → post (-1) q_waiting q_orders) ∧
  (¬ r2 = 0 → ((0 ≤ r1 → (∃ n_28, wpX2_removeFirst_L28 x1 q_count r1 (x1 * 5) q_waiting post n_28 1 q_orders)) ∧
  (¬ 0 ≤ r1 → post (-1) q_waiting q_orders))))))
def wpX2_begin (x1 : Int32) (x2 : Int32) (x3 : Int32) (x4 : Int32) (q_place : Nat → Int32) (q_target : Nat → Int32) (q_minutesLeft : Nat → Int32) (q_count : Int32) (post : (Nat → Int32) → (Nat → Int32) → (Nat → Int32) → Prop) : Prop :=
  wpX2_has x1 q_count (fun r1 => ((r1 = 0 → post q_place q_target q_minutesLeft) ∧
  (¬ r1 = 0 → (vp_in x1 4 ∧
  (vp_in x1 4 ∧
  (vp_in x1 4 ∧
  post (upd q_place x1.toNatClampNeg x4) (upd q_target x1.toNatClampNeg x2) (upd q_minutesLeft x1.toNatClampNeg x3)))))))
def wpX2_work (x1 : Int32) (q_target : Nat → Int32) (q_minutesLeft : Nat → Int32) (q_count : Int32) (post : Int32 → (Nat → Int32) → Prop) : Prop :=
  wpX2_has x1 q_count (fun r1 => ((r1 = 0 → post (-1) q_minutesLeft) ∧
  (¬ r1 = 0 → (vp_in x1 4 ∧
  ((0 < (q_minutesLeft x1.toNatClampNeg) → (vp_in x1 4 ∧
  (vp_in x1 4 ∧
  (vp_in x1 4 ∧
  ((¬ ((upd q_minutesLeft x1.toNatClampNeg ((q_minutesLeft x1.toNatClampNeg) - 1)) x1.toNatClampNeg) = 0 → post (-1) (upd q_minutesLeft x1.toNatClampNeg ((q_minutesLeft x1.toNatClampNeg) - 1))) ∧
  (((upd q_minutesLeft x1.toNatClampNeg ((q_minutesLeft x1.toNatClampNeg) - 1)) x1.toNatClampNeg) = 0 → (vp_in x1 4 ∧
  post (q_target x1.toNatClampNeg) (upd q_minutesLeft x1.toNatClampNeg ((q_minutesLeft x1.toNatClampNeg) - 1))))))))) ∧
  (¬ 0 < (q_minutesLeft x1.toNatClampNeg) → post (-1) q_minutesLeft))))))
def wpX1_nearestOpen_L7 (w_reach : Nat → Int32) (w_settled : Nat → Int32) (post : Int32 → Prop) : Nat → Int32 → Int32 → Int32 → Prop
  | 0, _, _, _ => False
  | n_7 + 1, x1_7, x2_7, x3_7 =>
  ((8 ≤ x3_7 → post x1_7) ∧
  (¬ 8 ≤ x3_7 → (vp_in x3_7 8 ∧
  ((¬ (w_settled x3_7.toNatClampNeg) = 0 → wpX1_nearestOpen_L7 w_reach w_settled post n_7 x1_7 x2_7 (x3_7 + 1)) ∧
  ((w_settled x3_7.toNatClampNeg) = 0 → (vp_in x3_7 8 ∧
  ((x2_7 ≤ (w_reach x3_7.toNatClampNeg) → wpX1_nearestOpen_L7 w_reach w_settled post n_7 x1_7 x2_7 (x3_7 + 1)) ∧
  (¬ x2_7 ≤ (w_reach x3_7.toNatClampNeg) → (vp_in x3_7 8 ∧
  wpX1_nearestOpen_L7 w_reach w_settled post n_7 x3_7 (w_reach x3_7.toNatClampNeg) (x3_7 + 1))))))))))
def wpX1_nearestOpen (w_reach : Nat → Int32) (w_settled : Nat → Int32) (post : Int32 → Prop) : Prop :=
  (∃ n_7, wpX1_nearestOpen_L7 w_reach w_settled post n_7 (-1) 1000000 0)
def wpX1_measureFrom_L72 (s_lower : Nat → Int32) (s_higher : Nat → Int32) (s_size : Nat → Int32) (s_count : Int32) (x3_72 : Int32) (x4_72 : Int32) (w_settled_72 : Nat → Int32) (k40 : Int32 → (Nat → Int32) → (Nat → Int32) → Prop) (post : (Nat → Int32) → (Nat → Int32) → Prop) : Nat → Int32 → (Nat → Int32) → Prop
  | 0, _, _ => False
  | n_72 + 1, x5_72, w_reach_72 =>
  ((s_count ≤ x5_72 → k40 (x3_72 + 1) w_reach_72 w_settled_72) ∧
  (¬ s_count ≤ x5_72 → ((12 ≤ x5_72 → k40 (x3_72 + 1) w_reach_72 w_settled_72) ∧
  (¬ 12 ≤ x5_72 → wpX4_otherEnd x5_72 x4_72 s_lower s_higher (fun r4 => wpX6_isJunction r4 (fun r5 => ((r5 = 0 → wpX1_measureFrom_L72 s_lower s_higher s_size s_count x3_72 x4_72 w_settled_72 k40 post n_72 (x5_72 + 1) w_reach_72) ∧
  (¬ r5 = 0 → (vp_in r4 8 ∧
  (vp_in x4_72 8 ∧
  (vp_in x5_72 12 ∧
  (vp_in r4 8 ∧
  wpX1_measureFrom_L72 s_lower s_higher s_size s_count x3_72 x4_72 w_settled_72 k40 post n_72 (x5_72 + 1) (upd w_reach_72 r4.toNatClampNeg (if ((w_reach_72 x4_72.toNatClampNeg) + (s_size x5_72.toNatClampNeg)) < (w_reach_72 r4.toNatClampNeg) then ((w_reach_72 x4_72.toNatClampNeg) + (s_size x5_72.toNatClampNeg)) else (w_reach_72 r4.toNatClampNeg)))))))))))))))
def wpX1_measureFrom_L40 (s_lower : Nat → Int32) (s_higher : Nat → Int32) (s_size : Nat → Int32) (s_count : Int32) (post : (Nat → Int32) → (Nat → Int32) → Prop) : Nat → Int32 → (Nat → Int32) → (Nat → Int32) → Prop
  | 0, _, _, _ => False
  | n_40 + 1, x3_40, w_reach_40, w_settled_40 =>
  ((8 ≤ x3_40 → post w_reach_40 w_settled_40) ∧
  (¬ 8 ≤ x3_40 → wpX1_nearestOpen w_reach_40 w_settled_40 (fun r1 => wpX6_isJunction r1 (fun r2 => ((¬ r2 = 0 → (vp_in r1 8 ∧
  (∃ n_72, wpX1_measureFrom_L72 s_lower s_higher s_size s_count x3_40 r1 (upd w_settled_40 r1.toNatClampNeg (vp_nar .boolean 1)) (fun v1 v2 v3 => wpX1_measureFrom_L40 s_lower s_higher s_size s_count post n_40 v1 v2 v3) post n_72 0 w_reach_40))) ∧
  (r2 = 0 → post w_reach_40 w_settled_40))))))
def wpX1_measureFrom_L2 (x1 : Int32) (s_lower : Nat → Int32) (s_higher : Nat → Int32) (s_size : Nat → Int32) (s_count : Int32) (post : (Nat → Int32) → (Nat → Int32) → Prop) : Nat → Int32 → (Nat → Int32) → (Nat → Int32) → Prop
  | 0, _, _, _ => False
  | n_2 + 1, x3_2, w_reach_2, w_settled_2 =>
  ((8 ≤ x3_2 → (∃ n_40, wpX1_measureFrom_L40 s_lower s_higher s_size s_count post n_40 0 w_reach_2 w_settled_2)) ∧
  (¬ 8 ≤ x3_2 → ((¬ x3_2 = x1 → (vp_in x3_2 8 ∧
  (vp_in x3_2 8 ∧
  wpX1_measureFrom_L2 x1 s_lower s_higher s_size s_count post n_2 (x3_2 + 1) (upd w_reach_2 x3_2.toNatClampNeg 1000000) (upd w_settled_2 x3_2.toNatClampNeg (vp_nar .boolean 0))))) ∧
  (x3_2 = x1 → (vp_in x3_2 8 ∧
  (vp_in x3_2 8 ∧
  wpX1_measureFrom_L2 x1 s_lower s_higher s_size s_count post n_2 (x3_2 + 1) (upd w_reach_2 x3_2.toNatClampNeg 0) (upd w_settled_2 x3_2.toNatClampNeg (vp_nar .boolean 0))))))))
def wpX1_measureFrom (x1 : Int32) (w_reach : Nat → Int32) (w_settled : Nat → Int32) (s_lower : Nat → Int32) (s_higher : Nat → Int32) (s_size : Nat → Int32) (s_count : Int32) (post : (Nat → Int32) → (Nat → Int32) → Prop) : Prop :=
  (∃ n_2, wpX1_measureFrom_L2 x1 s_lower s_higher s_size s_count post n_2 0 w_reach w_settled)
def wpX1_reachOf (x1 : Int32) (w_reach : Nat → Int32) (post : Int32 → Prop) : Prop :=
  wpX6_isJunction x1 (fun r1 => ((r1 = 0 → post 1000000) ∧
  (¬ r1 = 0 → (vp_in x1 8 ∧
  post (w_reach x1.toNatClampNeg)))))
def wpX1_link (x1 : Int32) (x2 : Int32) (x3 : Int32) (w_table : Nat → Int32) (post : (Nat → Int32) → Prop) : Prop :=
  wpX6_isJunction x1 (fun r1 => ((r1 = 0 → post w_table) ∧
  (¬ r1 = 0 → wpX6_isJunction x2 (fun r2 => ((r2 = 0 → post w_table) ∧
  (¬ r2 = 0 → (vp_in ((x1 * 8) + x2) 64 ∧
  (vp_in ((x2 * 8) + x1) 64 ∧
  post (upd (upd w_table ((x1 * 8) + x2).toNatClampNeg x3) ((x2 * 8) + x1).toNatClampNeg x3)))))))))
def wpX1_between (x1 : Int32) (x2 : Int32) (w_table : Nat → Int32) (post : Int32 → Prop) : Prop :=
  wpX6_isJunction x1 (fun r1 => ((r1 = 0 → post 1000000) ∧
  (¬ r1 = 0 → wpX6_isJunction x2 (fun r2 => ((r2 = 0 → post 1000000) ∧
  (¬ r2 = 0 → (vp_in ((x1 * 8) + x2) 64 ∧
  post (w_table ((x1 * 8) + x2).toNatClampNeg))))))))
def wpX1_improveBy_L10 (x1 : Int32) (x2_10 : Int32) (k2 : Int32 → (Nat → Int32) → Prop) (post : (Nat → Int32) → Prop) : Nat → Int32 → (Nat → Int32) → Prop
  | 0, _, _ => False
  | n_10 + 1, x3_10, w_table_10 =>
  ((8 ≤ x3_10 → k2 (x2_10 + 1) w_table_10) ∧
  (¬ 8 ≤ x3_10 → wpX1_between x2_10 x1 w_table_10 (fun r1 => wpX1_between x1 x3_10 w_table_10 (fun r2 => wpX1_between x2_10 x3_10 w_table_10 (fun r3 => ((r3 ≤ (r1 + r2) → wpX1_improveBy_L10 x1 x2_10 k2 post n_10 (x3_10 + 1) w_table_10) ∧
  (¬ r3 ≤ (r1 + r2) → (vp_in ((x2_10 * 8) + x3_10) 64 ∧
  wpX1_improveBy_L10 x1 x2_10 k2 post n_10 (x3_10 + 1) (upd w_table_10 ((x2_10 * 8) + x3_10).toNatClampNeg (r1 + r2))))))))))
def wpX1_improveBy_L2 (x1 : Int32) (post : (Nat → Int32) → Prop) : Nat → Int32 → (Nat → Int32) → Prop
  | 0, _, _ => False
  | n_2 + 1, x2_2, w_table_2 =>
  ((8 ≤ x2_2 → post w_table_2) ∧
  (¬ 8 ≤ x2_2 → (∃ n_10, wpX1_improveBy_L10 x1 x2_2 (fun v1 v2 => wpX1_improveBy_L2 x1 post n_2 v1 v2) post n_10 0 w_table_2)))
def wpX1_improveBy (x1 : Int32) (w_table : Nat → Int32) (post : (Nat → Int32) → Prop) : Prop :=
  (∃ n_2, wpX1_improveBy_L2 x1 post n_2 0 w_table)
def wpX1_improveAll_L96 (s_lower : Nat → Int32) (s_higher : Nat → Int32) (s_size : Nat → Int32) (s_count : Int32) (post : (Nat → Int32) → Prop) : Nat → Int32 → (Nat → Int32) → Prop
  | 0, _, _ => False
  | n_96 + 1, x2_96, w_table_96 =>
  ((8 ≤ x2_96 → post w_table_96) ∧
  (¬ 8 ≤ x2_96 → wpX1_improveBy x2_96 w_table_96 (fun w_table_v1 => wpX1_improveAll_L96 s_lower s_higher s_size s_count post n_96 (x2_96 + 1) w_table_v1)))
def wpX1_improveAll_L52 (s_lower : Nat → Int32) (s_higher : Nat → Int32) (s_size : Nat → Int32) (s_count : Int32) (post : (Nat → Int32) → Prop) : Nat → Int32 → (Nat → Int32) → Prop
  | 0, _, _ => False
  | n_52 + 1, x2_52, w_table_52 =>
  ((s_count ≤ x2_52 → (∃ n_96, wpX1_improveAll_L96 s_lower s_higher s_size s_count post n_96 0 w_table_52)) ∧
  (¬ s_count ≤ x2_52 → ((12 ≤ x2_52 → (∃ n_96, wpX1_improveAll_L96 s_lower s_higher s_size s_count post n_96 0 w_table_52)) ∧
  (¬ 12 ≤ x2_52 → (vp_in x2_52 12 ∧
  (vp_in x2_52 12 ∧
  (vp_in x2_52 12 ∧
  wpX1_link (s_lower x2_52.toNatClampNeg) (s_higher x2_52.toNatClampNeg) (s_size x2_52.toNatClampNeg) w_table_52 (fun w_table_v5 => wpX1_improveAll_L52 s_lower s_higher s_size s_count post n_52 (x2_52 + 1) w_table_v5))))))))
def wpX1_improveAll_L10 (s_lower : Nat → Int32) (s_higher : Nat → Int32) (s_size : Nat → Int32) (s_count : Int32) (x2_10 : Int32) (k2 : Int32 → (Nat → Int32) → Prop) (post : (Nat → Int32) → Prop) : Nat → Int32 → (Nat → Int32) → Prop
  | 0, _, _ => False
  | n_10 + 1, x3_10, w_table_10 =>
  ((8 ≤ x3_10 → k2 (x2_10 + 1) w_table_10) ∧
  (¬ 8 ≤ x3_10 → ((¬ x2_10 = x3_10 → (vp_in ((x2_10 * 8) + x3_10) 64 ∧
  wpX1_improveAll_L10 s_lower s_higher s_size s_count x2_10 k2 post n_10 (x3_10 + 1) (upd w_table_10 ((x2_10 * 8) + x3_10).toNatClampNeg 1000000))) ∧
  (x2_10 = x3_10 → (vp_in ((x2_10 * 8) + x3_10) 64 ∧
  wpX1_improveAll_L10 s_lower s_higher s_size s_count x2_10 k2 post n_10 (x3_10 + 1) (upd w_table_10 ((x2_10 * 8) + x3_10).toNatClampNeg 0))))))
def wpX1_improveAll_L2 (s_lower : Nat → Int32) (s_higher : Nat → Int32) (s_size : Nat → Int32) (s_count : Int32) (post : (Nat → Int32) → Prop) : Nat → Int32 → (Nat → Int32) → Prop
  | 0, _, _ => False
  | n_2 + 1, x2_2, w_table_2 =>
  ((8 ≤ x2_2 → (∃ n_52, wpX1_improveAll_L52 s_lower s_higher s_size s_count post n_52 0 w_table_2)) ∧
  (¬ 8 ≤ x2_2 → (∃ n_10, wpX1_improveAll_L10 s_lower s_higher s_size s_count x2_2 (fun v1 v2 => wpX1_improveAll_L2 s_lower s_higher s_size s_count post n_2 v1 v2) post n_10 0 w_table_2)))
def wpX1_improveAll (w_table : Nat → Int32) (s_lower : Nat → Int32) (s_higher : Nat → Int32) (s_size : Nat → Int32) (s_count : Int32) (post : (Nat → Int32) → Prop) : Prop :=
  (∃ n_2, wpX1_improveAll_L2 s_lower s_higher s_size s_count post n_2 0 w_table)
def wpX5_copyFrom (t_time : Int32) (t_store : Int32) (t_rate : Int32) (t_force : Int32) (t_cleared : Int32) (t_ploughed : Int32) (t_failed : Int32) (t_complained : Int32) (s_lower : Nat → Int32) (s_higher : Nat → Int32) (s_kind : Nat → Int32) (s_size : Nat → Int32) (s_snow : Nat → Int32) (s_saltEnd : Nat → Int32) (s_complained : Nat → Int32) (s_clearings : Nat → Int32) (s_count : Int32) (q_place : Nat → Int32) (q_target : Nat → Int32) (q_minutesLeft : Nat → Int32) (q_waiting : Nat → Int32) (q_orders : Nat → Int32) (q_count : Int32) (t_timeo : Int32) (t_storeo : Int32) (t_rateo : Int32) (t_forceo : Int32) (t_clearedo : Int32) (t_ploughedo : Int32) (t_failedo : Int32) (t_complainedo : Int32) (s_lowero : Nat → Int32) (s_highero : Nat → Int32) (s_kindo : Nat → Int32) (s_sizeo : Nat → Int32) (s_snowo : Nat → Int32) (s_saltEndo : Nat → Int32) (s_complainedo : Nat → Int32) (s_clearingso : Nat → Int32) (s_counto : Int32) (q_placeo : Nat → Int32) (q_targeto : Nat → Int32) (q_minutesLefto : Nat → Int32) (q_waitingo : Nat → Int32) (q_orderso : Nat → Int32) (q_counto : Int32) (post : Int32 → Int32 → Int32 → Int32 → Int32 → Int32 → Int32 → Int32 → (Nat → Int32) → (Nat → Int32) → (Nat → Int32) → (Nat → Int32) → (Nat → Int32) → (Nat → Int32) → (Nat → Int32) → (Nat → Int32) → Int32 → (Nat → Int32) → (Nat → Int32) → (Nat → Int32) → (Nat → Int32) → (Nat → Int32) → Int32 → Prop) : Prop :=
  wpX4_copyFrom s_lower s_higher s_kind s_size s_snow s_saltEnd s_complained s_clearings s_count s_lowero s_highero s_kindo s_sizeo s_snowo s_saltEndo s_complainedo s_clearingso s_counto (fun s_lower_v1 s_higher_v1 s_kind_v1 s_size_v1 s_snow_v1 s_saltEnd_v1 s_complained_v1 s_clearings_v1 s_count_v1 => wpX2_copyFrom q_place q_target q_minutesLeft q_waiting q_orders q_count q_placeo q_targeto q_minutesLefto q_waitingo q_orderso q_counto (fun q_place_v2 q_target_v2 q_minutesLeft_v2 q_waiting_v2 q_orders_v2 q_count_v2 => post t_timeo t_storeo t_rateo t_forceo t_clearedo t_ploughedo t_failedo t_complainedo s_lower_v1 s_higher_v1 s_kind_v1 s_size_v1 s_snow_v1 s_saltEnd_v1 s_complained_v1 s_clearings_v1 s_count_v1 q_place_v2 q_target_v2 q_minutesLeft_v2 q_waiting_v2 q_orders_v2 q_count_v2))
def wpX5_putStreet (x1 : Int32) (x2 : Int32) (x3 : Int32) (x4 : Int32) (s_lower : Nat → Int32) (s_higher : Nat → Int32) (s_kind : Nat → Int32) (s_size : Nat → Int32) (s_snow : Nat → Int32) (s_saltEnd : Nat → Int32) (s_complained : Nat → Int32) (s_clearings : Nat → Int32) (s_count : Int32) (post : Int32 → (Nat → Int32) → (Nat → Int32) → (Nat → Int32) → (Nat → Int32) → (Nat → Int32) → (Nat → Int32) → (Nat → Int32) → (Nat → Int32) → Int32 → Prop) : Prop :=
  wpX6_isJunction x1 (fun r1 => ((r1 = 0 → post (-1) s_lower s_higher s_kind s_size s_snow s_saltEnd s_complained s_clearings s_count) ∧
  (¬ r1 = 0 → wpX6_isJunction x2 (fun r2 => ((¬ r2 = 0 → ((x1 = x2 → post (-2) s_lower s_higher s_kind s_size s_snow s_saltEnd s_complained s_clearings s_count) ∧
  (¬ x1 = x2 → ((x3 < 97 → post (-2) s_lower s_higher s_kind s_size s_snow s_saltEnd s_complained s_clearings s_count) ∧
  (¬ x3 < 97 → ((99 < x3 → post (-2) s_lower s_higher s_kind s_size s_snow s_saltEnd s_complained s_clearings s_count) ∧
  (¬ 99 < x3 → ((x4 < 1 → post (-2) s_lower s_higher s_kind s_size s_snow s_saltEnd s_complained s_clearings s_count) ∧
  (¬ x4 < 1 → ((x4 ≤ 9 → wpX4_areConnected (if x2 < x1 then x2 else x1) (if x1 < x2 then x2 else x1) s_lower s_higher s_count (fun r3 => ((r3 = 0 → wpX4_put (if x2 < x1 then x2 else x1) (if x1 < x2 then x2 else x1) x3 x4 s_lower s_higher s_kind s_size s_snow s_saltEnd s_complained s_clearings s_count (fun r4 s_lower_v4 s_higher_v4 s_kind_v4 s_size_v4 s_snow_v4 s_saltEnd_v4 s_complained_v4 s_clearings_v4 s_count_v4 => post r4 s_lower_v4 s_higher_v4 s_kind_v4 s_size_v4 s_snow_v4 s_saltEnd_v4 s_complained_v4 s_clearings_v4 s_count_v4)) ∧
  (¬ r3 = 0 → post (-4) s_lower s_higher s_kind s_size s_snow s_saltEnd s_complained s_clearings s_count)))) ∧
  (¬ x4 ≤ 9 → post (-2) s_lower s_higher s_kind s_size s_snow s_saltEnd s_complained s_clearings s_count))))))))))) ∧
  (r2 = 0 → post (-1) s_lower s_higher s_kind s_size s_snow s_saltEnd s_complained s_clearings s_count))))))
def wpX5_putPlough (x1 : Int32) (q_place : Nat → Int32) (q_target : Nat → Int32) (q_minutesLeft : Nat → Int32) (q_waiting : Nat → Int32) (q_count : Int32) (post : Int32 → (Nat → Int32) → (Nat → Int32) → (Nat → Int32) → (Nat → Int32) → Int32 → Prop) : Prop :=
  wpX6_isJunction x1 (fun r1 => ((r1 = 0 → post (-1) q_place q_target q_minutesLeft q_waiting q_count) ∧
  (¬ r1 = 0 → wpX2_put x1 q_place q_target q_minutesLeft q_waiting q_count (fun r2 q_place_v2 q_target_v2 q_minutesLeft_v2 q_waiting_v2 q_count_v2 => post r2 q_place_v2 q_target_v2 q_minutesLeft_v2 q_waiting_v2 q_count_v2))))
def wpX5_appendOrder (x1 : Int32) (x2 : Int32) (s_count : Int32) (q_waiting : Nat → Int32) (q_orders : Nat → Int32) (q_count : Int32) (post : Int32 → (Nat → Int32) → (Nat → Int32) → Prop) : Prop :=
  wpX4_has x2 s_count (fun r1 => ((r1 = 0 → post (-1) q_waiting q_orders) ∧
  (¬ r1 = 0 → wpX2_append x1 x2 q_waiting q_orders q_count (fun r2 q_waiting_v2 q_orders_v2 => post r2 q_waiting_v2 q_orders_v2))))
def wpX5_removeOrder (x1 : Int32) (q_waiting : Nat → Int32) (q_orders : Nat → Int32) (q_count : Int32) (post : Int32 → (Nat → Int32) → Prop) : Prop :=
  wpX2_removeLast x1 q_waiting q_orders q_count (fun r1 q_waiting_v1 => post r1 q_waiting_v1)
def wpX5_spreadSalt (x1 : Int32) (t_time : Int32) (t_store : Int32) (s_size : Nat → Int32) (s_saltEnd : Nat → Int32) (s_count : Int32) (post : Int32 → Int32 → (Nat → Int32) → Prop) : Prop :=
  wpX4_has x1 s_count (fun r1 => ((¬ r1 = 0 → wpX4_saltLeft x1 t_time s_saltEnd s_count (fun r2 => ((r2 ≤ 0 → (vp_in x1 12 ∧
  (((s_size x1.toNatClampNeg) ≤ t_store → (vp_in x1 12 ∧
  (vp_in x1 12 ∧
  post (t_store - (s_size x1.toNatClampNeg)) (t_store - (s_size x1.toNatClampNeg)) (upd s_saltEnd x1.toNatClampNeg (t_time + 240))))) ∧
  (¬ (s_size x1.toNatClampNeg) ≤ t_store → post (-4) t_store s_saltEnd)))) ∧
  (¬ r2 ≤ 0 → post (-3) t_store s_saltEnd)))) ∧
  (r1 = 0 → post (-1) t_store s_saltEnd)))
def wpX5_fillStore (x1 : Int32) (t_store : Int32) (post : Int32 → Int32 → Prop) : Prop :=
  ((x1 < 1 → post (-2) t_store) ∧
  (¬ x1 < 1 → ((x1 ≤ 200 → (((t_store + x1) ≤ 500 → post (t_store + x1) (t_store + x1)) ∧
  (¬ (t_store + x1) ≤ 500 → post (-3) t_store))) ∧
  (¬ x1 ≤ 200 → post (-2) t_store))))
def wpX5_changeRate (x1 : Int32) (t_rate : Int32) (post : Int32 → Int32 → Prop) : Prop :=
  ((x1 < 0 → post (-2) t_rate) ∧
  (¬ x1 < 0 → ((x1 ≤ 9 → post t_rate x1) ∧
  (¬ x1 ≤ 9 → post (-2) t_rate))))
def wpX5_changeForce (x1 : Int32) (t_force : Int32) (post : Int32 → Int32 → Prop) : Prop :=
  ((x1 < 0 → post (-2) t_force) ∧
  (¬ x1 < 0 → ((x1 ≤ 9 → post t_force x1) ∧
  (¬ x1 ≤ 9 → post (-2) t_force))))
def wpX5_minutesFor (x1 : Int32) (x2 : Int32) (w_reach : Nat → Int32) (w_settled : Nat → Int32) (s_lower : Nat → Int32) (s_higher : Nat → Int32) (s_size : Nat → Int32) (s_count : Int32) (q_place : Nat → Int32) (q_count : Int32) (post : Int32 → (Nat → Int32) → (Nat → Int32) → Prop) : Prop :=
  wpX2_has x1 q_count (fun r1 => ((r1 = 0 → post 1000000 w_reach w_settled) ∧
  (¬ r1 = 0 → wpX4_has x2 s_count (fun r2 => ((¬ r2 = 0 → (vp_in x1 4 ∧
  wpX1_measureFrom (q_place x1.toNatClampNeg) w_reach w_settled s_lower s_higher s_size s_count (fun w_reach_v4 w_settled_v4 => (vp_in x2 12 ∧
  wpX1_reachOf (s_lower x2.toNatClampNeg) w_reach_v4 (fun r6 => (vp_in x2 12 ∧
  wpX1_reachOf (s_higher x2.toNatClampNeg) w_reach_v4 (fun r8 => (((if r8 < r6 then r8 else r6) < 1000000 → (vp_in x2 12 ∧
  post ((2 * (if r8 < r6 then r8 else r6)) + (4 * (s_size x2.toNatClampNeg))) w_reach_v4 w_settled_v4)) ∧
  (¬ (if r8 < r6 then r8 else r6) < 1000000 → post 1000000 w_reach_v4 w_settled_v4))))))))) ∧
  (r2 = 0 → post 1000000 w_reach w_settled))))))
def wpX5_beginOrder_L92 (x1 : Int32) (s_lower : Nat → Int32) (s_higher : Nat → Int32) (s_size : Nat → Int32) (s_count : Int32) (q_count : Int32) (post : Int32 → (Nat → Int32) → (Nat → Int32) → (Nat → Int32) → (Nat → Int32) → (Nat → Int32) → (Nat → Int32) → (Nat → Int32) → Prop) (z0_92 : Int32) (x2_92 : Int32) (x3_92 : Int32) (x4_92 : Int32) (x5_92 : Int32) (t_failed_92 : Int32) (w_reach_92 : Nat → Int32) (w_settled_92 : Nat → Int32) (q_place_92 : Nat → Int32) (q_target_92 : Nat → Int32) (q_minutesLeft_92 : Nat → Int32) (q_waiting_92 : Nat → Int32) (q_orders_92 : Nat → Int32) : Prop :=
  ((z0_92 = 0 → wpX2_begin x1 x2_92 x3_92 x4_92 q_place_92 q_target_92 q_minutesLeft_92 q_count (fun q_place_v8 q_target_v8 q_minutesLeft_v8 => post t_failed_92 w_reach_92 w_settled_92 q_place_v8 q_target_v8 q_minutesLeft_v8 q_waiting_92 q_orders_92)) ∧
  (¬ z0_92 = 0 → wpX2_begin x1 x2_92 x3_92 x5_92 q_place_92 q_target_92 q_minutesLeft_92 q_count (fun q_place_v9 q_target_v9 q_minutesLeft_v9 => post t_failed_92 w_reach_92 w_settled_92 q_place_v9 q_target_v9 q_minutesLeft_v9 q_waiting_92 q_orders_92)))
def wpX5_beginOrder (x1 : Int32) (t_failed : Int32) (w_reach : Nat → Int32) (w_settled : Nat → Int32) (s_lower : Nat → Int32) (s_higher : Nat → Int32) (s_size : Nat → Int32) (s_count : Int32) (q_place : Nat → Int32) (q_target : Nat → Int32) (q_minutesLeft : Nat → Int32) (q_waiting : Nat → Int32) (q_orders : Nat → Int32) (q_count : Int32) (post : Int32 → (Nat → Int32) → (Nat → Int32) → (Nat → Int32) → (Nat → Int32) → (Nat → Int32) → (Nat → Int32) → (Nat → Int32) → Prop) : Prop :=
  wpX2_removeFirst x1 q_waiting q_orders q_count (fun r1 q_waiting_v1 q_orders_v1 => wpX5_minutesFor x1 r1 w_reach w_settled s_lower s_higher s_size s_count q_place q_count (fun r2 w_reach_v2 w_settled_v2 => ((1000000 ≤ r2 → post (t_failed + 1) w_reach_v2 w_settled_v2 q_place q_target q_minutesLeft q_waiting_v1 q_orders_v1) ∧
  (¬ 1000000 ≤ r2 → wpX4_has r1 s_count (fun r3 => ((¬ r3 = 0 → (vp_in r1 12 ∧
  (vp_in r1 12 ∧
  wpX1_reachOf (s_lower r1.toNatClampNeg) w_reach_v2 (fun r6 => wpX1_reachOf (s_higher r1.toNatClampNeg) w_reach_v2 (fun r7 => ((r7 < r6 → wpX5_beginOrder_L92 x1 s_lower s_higher s_size s_count q_count post 0 r1 r2 (s_lower r1.toNatClampNeg) (s_higher r1.toNatClampNeg) t_failed w_reach_v2 w_settled_v2 q_place q_target q_minutesLeft q_waiting_v1 q_orders_v1) ∧
  (¬ r7 < r6 → wpX5_beginOrder_L92 x1 s_lower s_higher s_size s_count q_count post 1 r1 r2 (s_lower r1.toNatClampNeg) (s_higher r1.toNatClampNeg) t_failed w_reach_v2 w_settled_v2 q_place q_target q_minutesLeft q_waiting_v1 q_orders_v1))))))) ∧
  (r3 = 0 → post (t_failed + 1) w_reach_v2 w_settled_v2 q_place q_target q_minutesLeft q_waiting_v1 q_orders_v1)))))))
def wpX5_clearStreet (x1 : Int32) (t_cleared : Int32) (t_ploughed : Int32) (s_snow : Nat → Int32) (s_clearings : Nat → Int32) (s_count : Int32) (post : Int32 → Int32 → (Nat → Int32) → (Nat → Int32) → Prop) : Prop :=
  wpX4_has x1 s_count (fun r1 => ((r1 = 0 → post t_cleared t_ploughed s_snow s_clearings) ∧
  (¬ r1 = 0 → (vp_in x1 12 ∧
  (vp_in x1 12 ∧
  (vp_in x1 12 ∧
  (vp_in x1 12 ∧
  post (t_cleared + 1) (t_ploughed + (s_snow x1.toNatClampNeg)) (upd s_snow x1.toNatClampNeg 0) (upd s_clearings x1.toNatClampNeg ((s_clearings x1.toNatClampNeg) + 1)))))))))
def wpX5_endHour (t_time : Int32) (t_rate : Int32) (t_force : Int32) (t_complained : Int32) (s_kind : Nat → Int32) (s_snow : Nat → Int32) (s_saltEnd : Nat → Int32) (s_complained : Nat → Int32) (s_count : Int32) (post : Int32 → (Nat → Int32) → (Nat → Int32) → Prop) : Prop :=
  wpX4_fall t_rate s_snow s_count (fun s_snow_v1 => wpX4_melt t_time s_snow_v1 s_saltEnd s_count (fun s_snow_v2 => wpX4_drift t_force s_snow_v2 s_count (fun s_snow_v3 => wpX4_complain s_kind s_snow_v3 s_complained s_count (fun r4 s_complained_v4 => post (t_complained + r4) s_snow_v3 s_complained_v4))))
def wpX5_passMinutes_L40 (x1 : Int32) (x2_22 : Int32) (t_rate : Int32) (t_force : Int32) (s_lower : Nat → Int32) (s_higher : Nat → Int32) (s_kind : Nat → Int32) (s_size : Nat → Int32) (s_saltEnd : Nat → Int32) (s_count : Int32) (q_count : Int32) (x3_40 : Int32) (t_time_40 : Int32) (t_complained_40 : Int32) (s_complained_40 : Nat → Int32) (k22 : Int32 → Int32 → Int32 → Int32 → Int32 → Int32 → (Nat → Int32) → (Nat → Int32) → (Nat → Int32) → (Nat → Int32) → (Nat → Int32) → (Nat → Int32) → (Nat → Int32) → (Nat → Int32) → (Nat → Int32) → (Nat → Int32) → Prop) (post : Int32 → Int32 → Int32 → Int32 → Int32 → Int32 → (Nat → Int32) → (Nat → Int32) → (Nat → Int32) → (Nat → Int32) → (Nat → Int32) → (Nat → Int32) → (Nat → Int32) → (Nat → Int32) → (Nat → Int32) → (Nat → Int32) → Prop) : Nat → Int32 → Int32 → Int32 → Int32 → (Nat → Int32) → (Nat → Int32) → (Nat → Int32) → (Nat → Int32) → (Nat → Int32) → (Nat → Int32) → (Nat → Int32) → (Nat → Int32) → (Nat → Int32) → Prop
  | 0, _, _, _, _, _, _, _, _, _, _, _, _, _ => False
  | n_40 + 1, x4_40, t_cleared_40, t_ploughed_40, t_failed_40, w_reach_40, w_settled_40, s_snow_40, s_clearings_40, q_place_40, q_target_40, q_minutesLeft_40, q_waiting_40, q_orders_40 =>
  ((q_count ≤ x4_40 → ((¬ (t_time_40 - t_time_40 / 60 * 60) = 0 → k22 (x3_40 + 1) t_time_40 t_cleared_40 t_ploughed_40 t_failed_40 t_complained_40 w_reach_40 w_settled_40 s_snow_40 s_complained_40 s_clearings_40 q_place_40 q_target_40 q_minutesLeft_40 q_waiting_40 q_orders_40) ∧
  ((t_time_40 - t_time_40 / 60 * 60) = 0 → wpX5_endHour t_time_40 t_rate t_force t_complained_40 s_kind s_snow_40 s_saltEnd s_complained_40 s_count (fun t_complained_v1 s_snow_v1 s_complained_v1 => k22 (x3_40 + 1) t_time_40 t_cleared_40 t_ploughed_40 t_failed_40 t_complained_v1 w_reach_40 w_settled_40 s_snow_v1 s_complained_v1 s_clearings_40 q_place_40 q_target_40 q_minutesLeft_40 q_waiting_40 q_orders_40)))) ∧
  (¬ q_count ≤ x4_40 → wpX2_canBegin x4_40 q_minutesLeft_40 q_waiting_40 q_count (fun r2 => ((r2 = 0 → wpX2_work x4_40 q_target_40 q_minutesLeft_40 q_count (fun r3 q_minutesLeft_v3 => wpX5_clearStreet r3 t_cleared_40 t_ploughed_40 s_snow_40 s_clearings_40 s_count (fun t_cleared_v4 t_ploughed_v4 s_snow_v4 s_clearings_v4 => wpX5_passMinutes_L40 x1 x2_22 t_rate t_force s_lower s_higher s_kind s_size s_saltEnd s_count q_count x3_40 t_time_40 t_complained_40 s_complained_40 k22 post n_40 (x4_40 + 1) t_cleared_v4 t_ploughed_v4 t_failed_40 w_reach_40 w_settled_40 s_snow_v4 s_clearings_v4 q_place_40 q_target_40 q_minutesLeft_v3 q_waiting_40 q_orders_40))) ∧
  (¬ r2 = 0 → wpX5_beginOrder x4_40 t_failed_40 w_reach_40 w_settled_40 s_lower s_higher s_size s_count q_place_40 q_target_40 q_minutesLeft_40 q_waiting_40 q_orders_40 q_count (fun t_failed_v5 w_reach_v5 w_settled_v5 q_place_v5 q_target_v5 q_minutesLeft_v5 q_waiting_v5 q_orders_v5 => wpX2_work x4_40 q_target_v5 q_minutesLeft_v5 q_count (fun r6 q_minutesLeft_v6 => wpX5_clearStreet r6 t_cleared_40 t_ploughed_40 s_snow_40 s_clearings_40 s_count (fun t_cleared_v7 t_ploughed_v7 s_snow_v7 s_clearings_v7 => wpX5_passMinutes_L40 x1 x2_22 t_rate t_force s_lower s_higher s_kind s_size s_saltEnd s_count q_count x3_40 t_time_40 t_complained_40 s_complained_40 k22 post n_40 (x4_40 + 1) t_cleared_v7 t_ploughed_v7 t_failed_v5 w_reach_v5 w_settled_v5 s_snow_v7 s_clearings_v7 q_place_v5 q_target_v5 q_minutesLeft_v6 q_waiting_v5 q_orders_v5))))))))
def wpX5_passMinutes_L22 (x1 : Int32) (t_rate : Int32) (t_force : Int32) (s_lower : Nat → Int32) (s_higher : Nat → Int32) (s_kind : Nat → Int32) (s_size : Nat → Int32) (s_saltEnd : Nat → Int32) (s_count : Int32) (q_count : Int32) (x2_22 : Int32) (post : Int32 → Int32 → Int32 → Int32 → Int32 → Int32 → (Nat → Int32) → (Nat → Int32) → (Nat → Int32) → (Nat → Int32) → (Nat → Int32) → (Nat → Int32) → (Nat → Int32) → (Nat → Int32) → (Nat → Int32) → (Nat → Int32) → Prop) : Nat → Int32 → Int32 → Int32 → Int32 → Int32 → Int32 → (Nat → Int32) → (Nat → Int32) → (Nat → Int32) → (Nat → Int32) → (Nat → Int32) → (Nat → Int32) → (Nat → Int32) → (Nat → Int32) → (Nat → Int32) → (Nat → Int32) → Prop
  | 0, _, _, _, _, _, _, _, _, _, _, _, _, _, _, _, _ => False
  | n_22 + 1, x3_22, t_time_22, t_cleared_22, t_ploughed_22, t_failed_22, t_complained_22, w_reach_22, w_settled_22, s_snow_22, s_complained_22, s_clearings_22, q_place_22, q_target_22, q_minutesLeft_22, q_waiting_22, q_orders_22 =>
  ((x1 ≤ x3_22 → post (t_cleared_22 - x2_22) t_time_22 t_cleared_22 t_ploughed_22 t_failed_22 t_complained_22 w_reach_22 w_settled_22 s_snow_22 s_complained_22 s_clearings_22 q_place_22 q_target_22 q_minutesLeft_22 q_waiting_22 q_orders_22) ∧
  (¬ x1 ≤ x3_22 → (∃ n_40, wpX5_passMinutes_L40 x1 x2_22 t_rate t_force s_lower s_higher s_kind s_size s_saltEnd s_count q_count x3_22 (t_time_22 + 1) t_complained_22 s_complained_22 (fun v1 v2 v3 v4 v5 v6 v7 v8 v9 v10 v11 v12 v13 v14 v15 v16 => wpX5_passMinutes_L22 x1 t_rate t_force s_lower s_higher s_kind s_size s_saltEnd s_count q_count x2_22 post n_22 v1 v2 v3 v4 v5 v6 v7 v8 v9 v10 v11 v12 v13 v14 v15 v16) post n_40 0 t_cleared_22 t_ploughed_22 t_failed_22 w_reach_22 w_settled_22 s_snow_22 s_clearings_22 q_place_22 q_target_22 q_minutesLeft_22 q_waiting_22 q_orders_22)))
def wpX5_passMinutes (x1 : Int32) (t_time : Int32) (t_rate : Int32) (t_force : Int32) (t_cleared : Int32) (t_ploughed : Int32) (t_failed : Int32) (t_complained : Int32) (w_reach : Nat → Int32) (w_settled : Nat → Int32) (s_lower : Nat → Int32) (s_higher : Nat → Int32) (s_kind : Nat → Int32) (s_size : Nat → Int32) (s_snow : Nat → Int32) (s_saltEnd : Nat → Int32) (s_complained : Nat → Int32) (s_clearings : Nat → Int32) (s_count : Int32) (q_place : Nat → Int32) (q_target : Nat → Int32) (q_minutesLeft : Nat → Int32) (q_waiting : Nat → Int32) (q_orders : Nat → Int32) (q_count : Int32) (post : Int32 → Int32 → Int32 → Int32 → Int32 → Int32 → (Nat → Int32) → (Nat → Int32) → (Nat → Int32) → (Nat → Int32) → (Nat → Int32) → (Nat → Int32) → (Nat → Int32) → (Nat → Int32) → (Nat → Int32) → (Nat → Int32) → Prop) : Prop :=
  ((x1 < 1 → post (-2) t_time t_cleared t_ploughed t_failed t_complained w_reach w_settled s_snow s_complained s_clearings q_place q_target q_minutesLeft q_waiting q_orders) ∧
  (¬ x1 < 1 → ((x1 ≤ 600 → (∃ n_22, wpX5_passMinutes_L22 x1 t_rate t_force s_lower s_higher s_kind s_size s_saltEnd s_count q_count t_cleared post n_22 0 t_time t_cleared t_ploughed t_failed t_complained w_reach w_settled s_snow s_complained s_clearings q_place q_target q_minutesLeft q_waiting q_orders)) ∧
  (¬ x1 ≤ 600 → post (-2) t_time t_cleared t_ploughed t_failed t_complained w_reach w_settled s_snow s_complained s_clearings q_place q_target q_minutesLeft q_waiting q_orders))))
def wpX7_thrown (m_thrown : Int32) (post : Int32 → Prop) : Prop :=
  post m_thrown
def wpX7_isIn (x0 : Int32) (x1 : Int32) (x2 : Int32) (post : Int32 → Prop) : Prop :=
  ((x0 < x1 → post 0) ∧
  (¬ x0 < x1 → ((x2 < x0 → post 0) ∧
  (¬ x2 < x0 → post 1))))
def wpX7_lesser (x0 : Int32) (x1 : Int32) (post : Int32 → Prop) : Prop :=
  ((x1 ≤ x0 → post x1) ∧
  (¬ x1 ≤ x0 → post x0))
def wpX7_greater (x0 : Int32) (x1 : Int32) (post : Int32 → Prop) : Prop :=
  ((x0 ≤ x1 → post x1) ∧
  (¬ x0 ≤ x1 → post x0))
def wpX7_copies_L3 (x1 : Int32) (x3 : Int32) (v_n : Nat) (v_f : Nat → Int32) (w_n : Nat) (post : (Nat → Int32) → Prop) : Nat → Int32 → (Nat → Int32) → Prop
  | 0, _, _ => False
  | n_3 + 1, x4_3, w_f_3 =>
  ((130 ≤ x4_3 → post w_f_3) ∧
  (¬ 130 ≤ x4_3 → (vp_in (x1 + x4_3) v_n ∧
  (vp_in (x3 + x4_3) w_n ∧
  wpX7_copies_L3 x1 x3 v_n v_f w_n post n_3 (x4_3 + 1) (upd w_f_3 (x3 + x4_3).toNatClampNeg (v_f (x1 + x4_3).toNatClampNeg))))))
def wpX7_copies (x1 : Int32) (x3 : Int32) (v_n : Nat) (v_f : Nat → Int32) (w_n : Nat) (w_f : Nat → Int32) (post : (Nat → Int32) → Prop) : Prop :=
  (∃ n_3, wpX7_copies_L3 x1 x3 v_n v_f w_n post n_3 0 w_f)
def wpX7_keeps (m_thrown : Int32) (m_s : Nat → Int32) (m_was : Nat → Int32) (post : Int32 → (Nat → Int32) → Prop) : Prop :=
  wpX7_copies 0 0 130 m_s 130 m_was (fun m_was_v1 => post 0 m_was_v1)
def wpX7_copies_same_L3 (x1 : Int32) (x3 : Int32) (v_n : Nat) (post : (Nat → Int32) → Prop) : Nat → Int32 → (Nat → Int32) → Prop
  | 0, _, _ => False
  | n_3 + 1, x4_3, v_f_3 =>
  ((130 ≤ x4_3 → post v_f_3) ∧
  (¬ 130 ≤ x4_3 → (vp_in (x1 + x4_3) v_n ∧
  (vp_in (x3 + x4_3) v_n ∧
  wpX7_copies_same_L3 x1 x3 v_n post n_3 (x4_3 + 1) (upd v_f_3 (x3 + x4_3).toNatClampNeg (v_f_3 (x1 + x4_3).toNatClampNeg))))))
def wpX7_copies_same (x1 : Int32) (x3 : Int32) (v_n : Nat) (v_f : Nat → Int32) (post : (Nat → Int32) → Prop) : Prop :=
  (∃ n_3, wpX7_copies_same_L3 x1 x3 v_n post n_3 0 v_f)
def wpX7_ends_L65 (x1 : Int32) (m_thrown : Int32) (m_was : Nat → Int32) (post : Int32 → Int32 → (Nat → Int32) → Prop) (m_changes_65 : Int32) (m_past_65 : Nat → Int32) : Prop :=
  wpX7_copies 0 (130 * m_changes_65) 130 m_was 1040 m_past_65 (fun m_past_v1 => post x1 (m_changes_65 + 1) m_past_v1)
def wpX7_ends_L20 (x1 : Int32) (m_thrown : Int32) (m_was : Nat → Int32) (m_changes_20 : Int32) (post : Int32 → Int32 → (Nat → Int32) → Prop) : Nat → Int32 → (Nat → Int32) → Prop
  | 0, _, _ => False
  | n_20 + 1, x2_20, m_past_20 =>
  ((8 ≤ x2_20 → wpX7_ends_L65 x1 m_thrown m_was post (m_changes_20 - 1) m_past_20) ∧
  (¬ 8 ≤ x2_20 → wpX7_copies_same (130 * x2_20) (130 * (x2_20 - 1)) 1040 m_past_20 (fun m_past_v2 => wpX7_ends_L20 x1 m_thrown m_was m_changes_20 post n_20 (x2_20 + 1) m_past_v2)))
def wpX7_ends (x1 : Int32) (m_changes : Int32) (m_thrown : Int32) (m_was : Nat → Int32) (m_past : Nat → Int32) (post : Int32 → Int32 → (Nat → Int32) → Prop) : Prop :=
  ((m_thrown = 0 → ((¬ m_changes = 8 → wpX7_ends_L65 x1 m_thrown m_was post m_changes m_past) ∧
  (m_changes = 8 → (∃ n_20, wpX7_ends_L20 x1 m_thrown m_was m_changes post n_20 1 m_past)))) ∧
  (¬ m_thrown = 0 → post 0 m_changes m_past))
def wpX7_isThrown (x1 : Int32) (x2 : Int32) (m_thrown : Int32) (post : Int32 → Int32 → Prop) : Prop :=
  ((x1 = 0 → (narrow .boolean (.int x1) = .int x1 ∧
  post x1 0)) ∧
  (¬ x1 = 0 → (narrow .boolean (.int x1) = .int x1 ∧
  post x1 x2)))
def wpX7_isJunction (x0 : Int32) (post : Int32 → Prop) : Prop :=
  wpX7_isIn x0 0 7 (fun r1 => (narrow .boolean (.int r1) = .int r1 ∧
  post r1))
def wpX7_isStreet (x1 : Int32) (m_s : Nat → Int32) (post : Int32 → Prop) : Prop :=
  (vp_in 1 130 ∧
  wpX7_isIn x1 0 ((m_s (1 : Int32).toNatClampNeg) - 1) (fun r2 => (narrow .boolean (.int r2) = .int r2 ∧
  post r2)))
def wpX7_isPlough (x1 : Int32) (m_s : Nat → Int32) (post : Int32 → Prop) : Prop :=
  (vp_in 2 130 ∧
  wpX7_isIn x1 0 ((m_s (2 : Int32).toNatClampNeg) - 1) (fun r2 => (narrow .boolean (.int r2) = .int r2 ∧
  post r2)))
def wpX7_of (x1 : Int32) (x2 : Int32) (m_s : Nat → Int32) (post : Int32 → Prop) : Prop :=
  (vp_in ((10 + (7 * x1)) + x2) 130 ∧
  post (m_s ((10 + (7 * x1)) + x2).toNatClampNeg))
def wpX7_sets (x1 : Int32) (x2 : Int32) (x3 : Int32) (m_s : Nat → Int32) (post : (Nat → Int32) → Prop) : Prop :=
  (vp_in ((10 + (7 * x1)) + x2) 130 ∧
  post (upd m_s ((10 + (7 * x1)) + x2).toNatClampNeg x3))
def wpX7_ofPlough (x1 : Int32) (x2 : Int32) (m_s : Nat → Int32) (post : Int32 → Prop) : Prop :=
  (vp_in ((94 + (9 * x1)) + x2) 130 ∧
  post (m_s ((94 + (9 * x1)) + x2).toNatClampNeg))
def wpX7_setsPlough (x1 : Int32) (x2 : Int32) (x3 : Int32) (m_s : Nat → Int32) (post : (Nat → Int32) → Prop) : Prop :=
  (vp_in ((94 + (9 * x1)) + x2) 130 ∧
  post (upd m_s ((94 + (9 * x1)) + x2).toNatClampNeg x3))
def wpX7_limit (x1 : Int32) (m_s : Nat → Int32) (post : Int32 → Prop) : Prop :=
  wpX7_of x1 2 m_s (fun r1 => post (5 * ((r1 - 97) + 1)))
def wpX7_overdue (x1 : Int32) (m_s : Nat → Int32) (post : Int32 → Prop) : Prop :=
  wpX7_of x1 4 m_s (fun r1 => wpX7_limit x1 m_s (fun r2 => ((r1 ≤ r2 → post 0) ∧
  (¬ r1 ≤ r2 → post 1))))
def wpX7_salted (x1 : Int32) (m_s : Nat → Int32) (post : Int32 → Prop) : Prop :=
  (vp_in 0 130 ∧
  wpX7_of x1 5 m_s (fun r2 => ((r2 ≤ (m_s (0 : Int32).toNatClampNeg) → post 0) ∧
  (¬ r2 ≤ (m_s (0 : Int32).toNatClampNeg) → post 1))))
def wpX7_joins_L2 (x1 : Int32) (x2 : Int32) (m_s : Nat → Int32) (post : Int32 → Prop) : Nat → Int32 → Prop
  | 0, _ => False
  | n_2 + 1, x3_2 =>
  (vp_in 1 130 ∧
  (((m_s (1 : Int32).toNatClampNeg) ≤ x3_2 → post 0) ∧
  (¬ (m_s (1 : Int32).toNatClampNeg) ≤ x3_2 → wpX7_of x3_2 0 m_s (fun r2 => wpX7_lesser x1 x2 (fun r3 => ((¬ r2 = r3 → wpX7_joins_L2 x1 x2 m_s post n_2 (x3_2 + 1)) ∧
  (r2 = r3 → wpX7_of x3_2 1 m_s (fun r4 => wpX7_greater x1 x2 (fun r5 => ((¬ r4 = r5 → wpX7_joins_L2 x1 x2 m_s post n_2 (x3_2 + 1)) ∧
  (r4 = r5 → post 1)))))))))))
def wpX7_joins (x1 : Int32) (x2 : Int32) (m_s : Nat → Int32) (post : Int32 → Prop) : Prop :=
  (∃ n_2, wpX7_joins_L2 x1 x2 m_s post n_2 0)
def wpX7_streets_L93 (x1 : Int32) (x2 : Int32) (x3 : Int32) (x4 : Int32) (post : Int32 → Int32 → (Nat → Int32) → Prop) (z1_93 : Int32) (m_thrown_93 : Int32) (m_s_93 : Nat → Int32) : Prop :=
  wpX7_isThrown z1_93 3 m_thrown_93 (fun r5 m_thrown_v5 => ((r5 = 0 → (vp_in 1 130 ∧
  wpX7_lesser x1 x2 (fun r7 => wpX7_sets (m_s_93 (1 : Int32).toNatClampNeg) 0 r7 m_s_93 (fun m_s_v8 => wpX7_greater x1 x2 (fun r9 => wpX7_sets (m_s_93 (1 : Int32).toNatClampNeg) 1 r9 m_s_v8 (fun m_s_v10 => wpX7_sets (m_s_93 (1 : Int32).toNatClampNeg) 2 x3 m_s_v10 (fun m_s_v11 => wpX7_sets (m_s_93 (1 : Int32).toNatClampNeg) 3 x4 m_s_v11 (fun m_s_v12 => (vp_in 1 130 ∧
  (vp_in 1 130 ∧
  post (m_s_93 (1 : Int32).toNatClampNeg) m_thrown_v5 (upd m_s_v12 (1 : Int32).toNatClampNeg ((m_s_v12 (1 : Int32).toNatClampNeg) + 1)))))))))))) ∧
  (¬ r5 = 0 → post 0 m_thrown_v5 m_s_93)))
def wpX7_streets_L60 (x1 : Int32) (x2 : Int32) (x3 : Int32) (x4 : Int32) (post : Int32 → Int32 → (Nat → Int32) → Prop) (z1_60 : Int32) (m_thrown_60 : Int32) (m_s_60 : Nat → Int32) : Prop :=
  wpX7_isThrown z1_60 2 m_thrown_60 (fun r3 m_thrown_v3 => ((¬ r3 = 0 → post 0 m_thrown_v3 m_s_60) ∧
  (r3 = 0 → (vp_in 1 130 ∧
  (((m_s_60 (1 : Int32).toNatClampNeg) = 12 → wpX7_streets_L93 x1 x2 x3 x4 post 1 m_thrown_v3 m_s_60) ∧
  (¬ (m_s_60 (1 : Int32).toNatClampNeg) = 12 → wpX7_joins x1 x2 m_s_60 (fun r15 => ((r15 = 0 → wpX7_streets_L93 x1 x2 x3 x4 post 0 m_thrown_v3 m_s_60) ∧
  (¬ r15 = 0 → wpX7_streets_L93 x1 x2 x3 x4 post 1 m_thrown_v3 m_s_60)))))))))
def wpX7_streets_L20 (x1 : Int32) (x2 : Int32) (x3 : Int32) (x4 : Int32) (post : Int32 → Int32 → (Nat → Int32) → Prop) (z1_20 : Int32) (m_thrown_20 : Int32) (m_s_20 : Nat → Int32) : Prop :=
  wpX7_isThrown z1_20 1 m_thrown_20 (fun r2 m_thrown_v2 => ((¬ r2 = 0 → post 0 m_thrown_v2 m_s_20) ∧
  (r2 = 0 → ((x1 = x2 → wpX7_streets_L60 x1 x2 x3 x4 post 1 m_thrown_v2 m_s_20) ∧
  (¬ x1 = x2 → wpX7_isIn x3 97 99 (fun r16 => ((r16 = 0 → wpX7_streets_L60 x1 x2 x3 x4 post 1 m_thrown_v2 m_s_20) ∧
  (¬ r16 = 0 → wpX7_isIn x4 1 9 (fun r17 => ((¬ r17 = 0 → wpX7_streets_L60 x1 x2 x3 x4 post 0 m_thrown_v2 m_s_20) ∧
  (r17 = 0 → wpX7_streets_L60 x1 x2 x3 x4 post 1 m_thrown_v2 m_s_20)))))))))))
def wpX7_streets (x1 : Int32) (x2 : Int32) (x3 : Int32) (x4 : Int32) (m_thrown : Int32) (m_s : Nat → Int32) (post : Int32 → Int32 → (Nat → Int32) → Prop) : Prop :=
  wpX7_isJunction x1 (fun r1 => ((r1 = 0 → wpX7_streets_L20 x1 x2 x3 x4 post 1 m_thrown m_s) ∧
  (¬ r1 = 0 → wpX7_isJunction x2 (fun r18 => ((¬ r18 = 0 → wpX7_streets_L20 x1 x2 x3 x4 post 0 m_thrown m_s) ∧
  (r18 = 0 → wpX7_streets_L20 x1 x2 x3 x4 post 1 m_thrown m_s))))))
def wpX7_addStreet (x1 : Int32) (x2 : Int32) (x3 : Int32) (x4 : Int32) (m_changes : Int32) (m_thrown : Int32) (m_s : Nat → Int32) (m_was : Nat → Int32) (m_past : Nat → Int32) (post : Int32 → Int32 → Int32 → (Nat → Int32) → (Nat → Int32) → (Nat → Int32) → Prop) : Prop :=
  wpX7_keeps m_thrown m_s m_was (fun m_thrown_v1 m_was_v1 => wpX7_streets x1 x2 x3 x4 m_thrown_v1 m_s (fun r2 m_thrown_v2 m_s_v2 => wpX7_ends r2 m_changes m_thrown_v2 m_was_v1 m_past (fun r3 m_changes_v3 m_past_v3 => post r3 m_changes_v3 m_thrown_v2 m_s_v2 m_was_v1 m_past_v3)))
def wpX7_ploughs_L36 (x1 : Int32) (post : Int32 → Int32 → (Nat → Int32) → Prop) (z1_36 : Int32) (m_thrown_36 : Int32) (m_s_36 : Nat → Int32) : Prop :=
  wpX7_isThrown z1_36 2 m_thrown_36 (fun r4 m_thrown_v4 => ((r4 = 0 → (vp_in 2 130 ∧
  wpX7_setsPlough (m_s_36 (2 : Int32).toNatClampNeg) 0 x1 m_s_36 (fun m_s_v6 => (vp_in 2 130 ∧
  (vp_in 2 130 ∧
  (vp_in 2 130 ∧
  post (((upd m_s_v6 (2 : Int32).toNatClampNeg ((m_s_v6 (2 : Int32).toNatClampNeg) + 1)) (2 : Int32).toNatClampNeg) - 1) m_thrown_v4 (upd m_s_v6 (2 : Int32).toNatClampNeg ((m_s_v6 (2 : Int32).toNatClampNeg) + 1)))))))) ∧
  (¬ r4 = 0 → post 0 m_thrown_v4 m_s_36)))
def wpX7_ploughs_L13 (x1 : Int32) (post : Int32 → Int32 → (Nat → Int32) → Prop) (z1_13 : Int32) (m_thrown_13 : Int32) (m_s_13 : Nat → Int32) : Prop :=
  wpX7_isThrown z1_13 1 m_thrown_13 (fun r2 m_thrown_v2 => ((¬ r2 = 0 → post 0 m_thrown_v2 m_s_13) ∧
  (r2 = 0 → (vp_in 2 130 ∧
  ((¬ (m_s_13 (2 : Int32).toNatClampNeg) = 4 → wpX7_ploughs_L36 x1 post 0 m_thrown_v2 m_s_13) ∧
  ((m_s_13 (2 : Int32).toNatClampNeg) = 4 → wpX7_ploughs_L36 x1 post 1 m_thrown_v2 m_s_13))))))
def wpX7_ploughs (x1 : Int32) (m_thrown : Int32) (m_s : Nat → Int32) (post : Int32 → Int32 → (Nat → Int32) → Prop) : Prop :=
  wpX7_isJunction x1 (fun r1 => ((¬ r1 = 0 → wpX7_ploughs_L13 x1 post 0 m_thrown m_s) ∧
  (r1 = 0 → wpX7_ploughs_L13 x1 post 1 m_thrown m_s)))
def wpX7_addPlough (x1 : Int32) (m_changes : Int32) (m_thrown : Int32) (m_s : Nat → Int32) (m_was : Nat → Int32) (m_past : Nat → Int32) (post : Int32 → Int32 → Int32 → (Nat → Int32) → (Nat → Int32) → (Nat → Int32) → Prop) : Prop :=
  wpX7_keeps m_thrown m_s m_was (fun m_thrown_v1 m_was_v1 => wpX7_ploughs x1 m_thrown_v1 m_s (fun r2 m_thrown_v2 m_s_v2 => wpX7_ends r2 m_changes m_thrown_v2 m_was_v1 m_past (fun r3 m_changes_v3 m_past_v3 => post r3 m_changes_v3 m_thrown_v2 m_s_v2 m_was_v1 m_past_v3)))
def wpX7_orders_L45 (x1 : Int32) (x2 : Int32) (post : Int32 → Int32 → (Nat → Int32) → Prop) (z1_45 : Int32) (m_thrown_45 : Int32) (m_s_45 : Nat → Int32) : Prop :=
  wpX7_isThrown z1_45 2 m_thrown_45 (fun r4 m_thrown_v4 => ((r4 = 0 → wpX7_ofPlough x1 3 m_s_45 (fun r5 => wpX7_setsPlough x1 (4 + r5) x2 m_s_45 (fun m_s_v6 => wpX7_setsPlough x1 3 (r5 + 1) m_s_v6 (fun m_s_v7 => post (r5 + 1) m_thrown_v4 m_s_v7)))) ∧
  (¬ r4 = 0 → post 0 m_thrown_v4 m_s_45)))
def wpX7_orders_L22 (x1 : Int32) (x2 : Int32) (post : Int32 → Int32 → (Nat → Int32) → Prop) (z1_22 : Int32) (m_thrown_22 : Int32) (m_s_22 : Nat → Int32) : Prop :=
  wpX7_isThrown z1_22 1 m_thrown_22 (fun r2 m_thrown_v2 => ((¬ r2 = 0 → post 0 m_thrown_v2 m_s_22) ∧
  (r2 = 0 → wpX7_ofPlough x1 3 m_s_22 (fun r3 => ((¬ r3 = 5 → wpX7_orders_L45 x1 x2 post 0 m_thrown_v2 m_s_22) ∧
  (r3 = 5 → wpX7_orders_L45 x1 x2 post 1 m_thrown_v2 m_s_22))))))
def wpX7_orders (x1 : Int32) (x2 : Int32) (m_thrown : Int32) (m_s : Nat → Int32) (post : Int32 → Int32 → (Nat → Int32) → Prop) : Prop :=
  wpX7_isPlough x1 m_s (fun r1 => ((r1 = 0 → wpX7_orders_L22 x1 x2 post 1 m_thrown m_s) ∧
  (¬ r1 = 0 → wpX7_isStreet x2 m_s (fun r8 => ((¬ r8 = 0 → wpX7_orders_L22 x1 x2 post 0 m_thrown m_s) ∧
  (r8 = 0 → wpX7_orders_L22 x1 x2 post 1 m_thrown m_s))))))
def wpX7_order (x1 : Int32) (x2 : Int32) (m_changes : Int32) (m_thrown : Int32) (m_s : Nat → Int32) (m_was : Nat → Int32) (m_past : Nat → Int32) (post : Int32 → Int32 → Int32 → (Nat → Int32) → (Nat → Int32) → (Nat → Int32) → Prop) : Prop :=
  wpX7_keeps m_thrown m_s m_was (fun m_thrown_v1 m_was_v1 => wpX7_orders x1 x2 m_thrown_v1 m_s (fun r2 m_thrown_v2 m_s_v2 => wpX7_ends r2 m_changes m_thrown_v2 m_was_v1 m_past (fun r3 m_changes_v3 m_past_v3 => post r3 m_changes_v3 m_thrown_v2 m_s_v2 m_was_v1 m_past_v3)))
def wpX7_cancels_L36 (x1 : Int32) (post : Int32 → Int32 → (Nat → Int32) → Prop) (z1_36 : Int32) (m_thrown_36 : Int32) (m_s_36 : Nat → Int32) : Prop :=
  wpX7_isThrown z1_36 2 m_thrown_36 (fun r4 m_thrown_v4 => ((r4 = 0 → wpX7_ofPlough x1 3 m_s_36 (fun r5 => wpX7_ofPlough x1 (4 + (r5 - 1)) m_s_36 (fun r6 => wpX7_setsPlough x1 (4 + (r5 - 1)) 0 m_s_36 (fun m_s_v7 => wpX7_setsPlough x1 3 (r5 - 1) m_s_v7 (fun m_s_v8 => post r6 m_thrown_v4 m_s_v8))))) ∧
  (¬ r4 = 0 → post 0 m_thrown_v4 m_s_36)))
def wpX7_cancels_L14 (x1 : Int32) (post : Int32 → Int32 → (Nat → Int32) → Prop) (z1_14 : Int32) (m_thrown_14 : Int32) (m_s_14 : Nat → Int32) : Prop :=
  wpX7_isThrown z1_14 1 m_thrown_14 (fun r2 m_thrown_v2 => ((¬ r2 = 0 → post 0 m_thrown_v2 m_s_14) ∧
  (r2 = 0 → wpX7_ofPlough x1 3 m_s_14 (fun r3 => ((¬ r3 = 0 → wpX7_cancels_L36 x1 post 0 m_thrown_v2 m_s_14) ∧
  (r3 = 0 → wpX7_cancels_L36 x1 post 1 m_thrown_v2 m_s_14))))))
def wpX7_cancels (x1 : Int32) (m_thrown : Int32) (m_s : Nat → Int32) (post : Int32 → Int32 → (Nat → Int32) → Prop) : Prop :=
  wpX7_isPlough x1 m_s (fun r1 => ((¬ r1 = 0 → wpX7_cancels_L14 x1 post 0 m_thrown m_s) ∧
  (r1 = 0 → wpX7_cancels_L14 x1 post 1 m_thrown m_s)))
def wpX7_cancelOrder (x1 : Int32) (m_changes : Int32) (m_thrown : Int32) (m_s : Nat → Int32) (m_was : Nat → Int32) (m_past : Nat → Int32) (post : Int32 → Int32 → Int32 → (Nat → Int32) → (Nat → Int32) → (Nat → Int32) → Prop) : Prop :=
  wpX7_keeps m_thrown m_s m_was (fun m_thrown_v1 m_was_v1 => wpX7_cancels x1 m_thrown_v1 m_s (fun r2 m_thrown_v2 m_s_v2 => wpX7_ends r2 m_changes m_thrown_v2 m_was_v1 m_past (fun r3 m_changes_v3 m_past_v3 => post r3 m_changes_v3 m_thrown_v2 m_s_v2 m_was_v1 m_past_v3)))
def wpX7_salts_L55 (x1 : Int32) (post : Int32 → Int32 → (Nat → Int32) → Prop) (z1_55 : Int32) (m_thrown_55 : Int32) (m_s_55 : Nat → Int32) : Prop :=
  wpX7_isThrown z1_55 3 m_thrown_55 (fun r7 m_thrown_v7 => ((r7 = 0 → (vp_in 3 130 ∧
  wpX7_of x1 3 m_s_55 (fun r9 => (vp_in 3 130 ∧
  (vp_in 0 130 ∧
  wpX7_sets x1 5 (((upd m_s_55 (3 : Int32).toNatClampNeg ((m_s_55 (3 : Int32).toNatClampNeg) - r9)) (0 : Int32).toNatClampNeg) + 240) (upd m_s_55 (3 : Int32).toNatClampNeg ((m_s_55 (3 : Int32).toNatClampNeg) - r9)) (fun m_s_v12 => (vp_in 3 130 ∧
  post (m_s_v12 (3 : Int32).toNatClampNeg) m_thrown_v7 m_s_v12))))))) ∧
  (¬ r7 = 0 → post 0 m_thrown_v7 m_s_55)))
def wpX7_salts_L14 (x1 : Int32) (post : Int32 → Int32 → (Nat → Int32) → Prop) (z1_14 : Int32) (m_thrown_14 : Int32) (m_s_14 : Nat → Int32) : Prop :=
  wpX7_isThrown z1_14 1 m_thrown_14 (fun r2 m_thrown_v2 => ((¬ r2 = 0 → post 0 m_thrown_v2 m_s_14) ∧
  (r2 = 0 → wpX7_salted x1 m_s_14 (fun r3 => wpX7_isThrown r3 2 m_thrown_v2 (fun r4 m_thrown_v4 => ((¬ r4 = 0 → post 0 m_thrown_v4 m_s_14) ∧
  (r4 = 0 → (vp_in 3 130 ∧
  wpX7_of x1 3 m_s_14 (fun r6 => ((r6 ≤ (m_s_14 (3 : Int32).toNatClampNeg) → wpX7_salts_L55 x1 post 0 m_thrown_v4 m_s_14) ∧
  (¬ r6 ≤ (m_s_14 (3 : Int32).toNatClampNeg) → wpX7_salts_L55 x1 post 1 m_thrown_v4 m_s_14)))))))))))
def wpX7_salts (x1 : Int32) (m_thrown : Int32) (m_s : Nat → Int32) (post : Int32 → Int32 → (Nat → Int32) → Prop) : Prop :=
  wpX7_isStreet x1 m_s (fun r1 => ((¬ r1 = 0 → wpX7_salts_L14 x1 post 0 m_thrown m_s) ∧
  (r1 = 0 → wpX7_salts_L14 x1 post 1 m_thrown m_s)))
def wpX7_salt (x1 : Int32) (m_changes : Int32) (m_thrown : Int32) (m_s : Nat → Int32) (m_was : Nat → Int32) (m_past : Nat → Int32) (post : Int32 → Int32 → Int32 → (Nat → Int32) → (Nat → Int32) → (Nat → Int32) → Prop) : Prop :=
  wpX7_keeps m_thrown m_s m_was (fun m_thrown_v1 m_was_v1 => wpX7_salts x1 m_thrown_v1 m_s (fun r2 m_thrown_v2 m_s_v2 => wpX7_ends r2 m_changes m_thrown_v2 m_was_v1 m_past (fun r3 m_changes_v3 m_past_v3 => post r3 m_changes_v3 m_thrown_v2 m_s_v2 m_was_v1 m_past_v3)))
def wpX7_loads_L44 (x1 : Int32) (post : Int32 → Int32 → (Nat → Int32) → Prop) (z1_44 : Int32) (m_thrown_44 : Int32) (m_s_44 : Nat → Int32) : Prop :=
  wpX7_isThrown z1_44 2 m_thrown_44 (fun r4 m_thrown_v4 => ((r4 = 0 → (vp_in 3 130 ∧
  (vp_in 3 130 ∧
  (vp_in 3 130 ∧
  post ((upd m_s_44 (3 : Int32).toNatClampNeg ((m_s_44 (3 : Int32).toNatClampNeg) + x1)) (3 : Int32).toNatClampNeg) m_thrown_v4 (upd m_s_44 (3 : Int32).toNatClampNeg ((m_s_44 (3 : Int32).toNatClampNeg) + x1)))))) ∧
  (¬ r4 = 0 → post 0 m_thrown_v4 m_s_44)))
def wpX7_loads_L17 (x1 : Int32) (post : Int32 → Int32 → (Nat → Int32) → Prop) (z1_17 : Int32) (m_thrown_17 : Int32) (m_s_17 : Nat → Int32) : Prop :=
  wpX7_isThrown z1_17 1 m_thrown_17 (fun r2 m_thrown_v2 => ((¬ r2 = 0 → post 0 m_thrown_v2 m_s_17) ∧
  (r2 = 0 → (vp_in 3 130 ∧
  ((((m_s_17 (3 : Int32).toNatClampNeg) + x1) ≤ 500 → wpX7_loads_L44 x1 post 0 m_thrown_v2 m_s_17) ∧
  (¬ ((m_s_17 (3 : Int32).toNatClampNeg) + x1) ≤ 500 → wpX7_loads_L44 x1 post 1 m_thrown_v2 m_s_17))))))
def wpX7_loads (x1 : Int32) (m_thrown : Int32) (m_s : Nat → Int32) (post : Int32 → Int32 → (Nat → Int32) → Prop) : Prop :=
  wpX7_isIn x1 1 200 (fun r1 => ((¬ r1 = 0 → wpX7_loads_L17 x1 post 0 m_thrown m_s) ∧
  (r1 = 0 → wpX7_loads_L17 x1 post 1 m_thrown m_s)))
def wpX7_loadSalt (x1 : Int32) (m_changes : Int32) (m_thrown : Int32) (m_s : Nat → Int32) (m_was : Nat → Int32) (m_past : Nat → Int32) (post : Int32 → Int32 → Int32 → (Nat → Int32) → (Nat → Int32) → (Nat → Int32) → Prop) : Prop :=
  wpX7_keeps m_thrown m_s m_was (fun m_thrown_v1 m_was_v1 => wpX7_loads x1 m_thrown_v1 m_s (fun r2 m_thrown_v2 m_s_v2 => wpX7_ends r2 m_changes m_thrown_v2 m_was_v1 m_past (fun r3 m_changes_v3 m_past_v3 => post r3 m_changes_v3 m_thrown_v2 m_s_v2 m_was_v1 m_past_v3)))
def wpX7_tells_L16 (x1 : Int32) (x2 : Int32) (post : Int32 → Int32 → (Nat → Int32) → Prop) (z1_16 : Int32) (m_thrown_16 : Int32) (m_s_16 : Nat → Int32) : Prop :=
  wpX7_isThrown z1_16 1 m_thrown_16 (fun r2 m_thrown_v2 => ((r2 = 0 → (vp_in x1 130 ∧
  (vp_in x1 130 ∧
  post (m_s_16 x1.toNatClampNeg) m_thrown_v2 (upd m_s_16 x1.toNatClampNeg x2)))) ∧
  (¬ r2 = 0 → post 0 m_thrown_v2 m_s_16)))
def wpX7_tells (x1 : Int32) (x2 : Int32) (m_thrown : Int32) (m_s : Nat → Int32) (post : Int32 → Int32 → (Nat → Int32) → Prop) : Prop :=
  wpX7_isIn x2 0 9 (fun r1 => ((¬ r1 = 0 → wpX7_tells_L16 x1 x2 post 0 m_thrown m_s) ∧
  (r1 = 0 → wpX7_tells_L16 x1 x2 post 1 m_thrown m_s)))
def wpX7_setSnowfall (x1 : Int32) (m_changes : Int32) (m_thrown : Int32) (m_s : Nat → Int32) (m_was : Nat → Int32) (m_past : Nat → Int32) (post : Int32 → Int32 → Int32 → (Nat → Int32) → (Nat → Int32) → (Nat → Int32) → Prop) : Prop :=
  wpX7_keeps m_thrown m_s m_was (fun m_thrown_v1 m_was_v1 => wpX7_tells 4 x1 m_thrown_v1 m_s (fun r2 m_thrown_v2 m_s_v2 => wpX7_ends r2 m_changes m_thrown_v2 m_was_v1 m_past (fun r3 m_changes_v3 m_past_v3 => post r3 m_changes_v3 m_thrown_v2 m_s_v2 m_was_v1 m_past_v3)))
def wpX7_setWind (x1 : Int32) (m_changes : Int32) (m_thrown : Int32) (m_s : Nat → Int32) (m_was : Nat → Int32) (m_past : Nat → Int32) (post : Int32 → Int32 → Int32 → (Nat → Int32) → (Nat → Int32) → (Nat → Int32) → Prop) : Prop :=
  wpX7_keeps m_thrown m_s m_was (fun m_thrown_v1 m_was_v1 => wpX7_tells 5 x1 m_thrown_v1 m_s (fun r2 m_thrown_v2 m_s_v2 => wpX7_ends r2 m_changes m_thrown_v2 m_was_v1 m_past (fun r3 m_changes_v3 m_past_v3 => post r3 m_changes_v3 m_thrown_v2 m_s_v2 m_was_v1 m_past_v3)))
def wpX7_finds_L42 (m_s : Nat → Int32) (x2_42 : Int32) (k34 : Int32 → (Nat → Int32) → Prop) (post : (Nat → Int32) → Prop) : Nat → Int32 → (Nat → Int32) → Prop
  | 0, _, _ => False
  | n_42 + 1, x3_42, m_far_42 =>
  (vp_in 1 130 ∧
  (((m_s (1 : Int32).toNatClampNeg) ≤ x3_42 → k34 (x2_42 + 1) m_far_42) ∧
  (¬ (m_s (1 : Int32).toNatClampNeg) ≤ x3_42 → wpX7_of x3_42 0 m_s (fun r2 => wpX7_of x3_42 1 m_s (fun r3 => (vp_in r3 8 ∧
  (vp_in r2 8 ∧
  wpX7_of x3_42 3 m_s (fun r6 => wpX7_lesser (m_far_42 r3.toNatClampNeg) ((m_far_42 r2.toNatClampNeg) + r6) (fun r7 => (vp_in r3 8 ∧
  (vp_in r2 8 ∧
  (vp_in r3 8 ∧
  wpX7_of x3_42 3 m_s (fun r11 => wpX7_lesser ((upd m_far_42 r3.toNatClampNeg r7) r2.toNatClampNeg) (((upd m_far_42 r3.toNatClampNeg r7) r3.toNatClampNeg) + r11) (fun r12 => (vp_in r2 8 ∧
  wpX7_finds_L42 m_s x2_42 k34 post n_42 (x3_42 + 1) (upd (upd m_far_42 r3.toNatClampNeg r7) r2.toNatClampNeg r12))))))))))))))))
def wpX7_finds_L34 (m_s : Nat → Int32) (post : (Nat → Int32) → Prop) : Nat → Int32 → (Nat → Int32) → Prop
  | 0, _, _ => False
  | n_34 + 1, x2_34, m_far_34 =>
  ((8 ≤ x2_34 → post m_far_34) ∧
  (¬ 8 ≤ x2_34 → (∃ n_42, wpX7_finds_L42 m_s x2_34 (fun v1 v2 => wpX7_finds_L34 m_s post n_34 v1 v2) post n_42 0 m_far_34)))
def wpX7_finds_L2 (x1 : Int32) (m_s : Nat → Int32) (post : (Nat → Int32) → Prop) : Nat → Int32 → (Nat → Int32) → Prop
  | 0, _, _ => False
  | n_2 + 1, x2_2, m_far_2 =>
  ((8 ≤ x2_2 → (∃ n_34, wpX7_finds_L34 m_s post n_34 1 m_far_2)) ∧
  (¬ 8 ≤ x2_2 → ((¬ x2_2 = x1 → (vp_in x2_2 8 ∧
  wpX7_finds_L2 x1 m_s post n_2 (x2_2 + 1) (upd m_far_2 x2_2.toNatClampNeg 9999))) ∧
  (x2_2 = x1 → (vp_in x2_2 8 ∧
  wpX7_finds_L2 x1 m_s post n_2 (x2_2 + 1) (upd m_far_2 x2_2.toNatClampNeg 0))))))
def wpX7_finds (x1 : Int32) (m_s : Nat → Int32) (m_far : Nat → Int32) (post : (Nat → Int32) → Prop) : Prop :=
  (∃ n_2, wpX7_finds_L2 x1 m_s post n_2 0 m_far)
def wpX7_minutes (x1 : Int32) (x2 : Int32) (m_s : Nat → Int32) (m_far : Nat → Int32) (post : Int32 → (Nat → Int32) → Prop) : Prop :=
  wpX7_finds x1 m_s m_far (fun m_far_v1 => wpX7_of x2 0 m_s (fun r2 => (vp_in r2 8 ∧
  wpX7_of x2 1 m_s (fun r4 => (vp_in r4 8 ∧
  wpX7_lesser (m_far_v1 r2.toNatClampNeg) (m_far_v1 r4.toNatClampNeg) (fun r6 => ((r6 < 9999 → wpX7_of x2 3 m_s (fun r7 => post ((2 * r6) + (4 * r7)) m_far_v1)) ∧
  (¬ r6 < 9999 → post (-1) m_far_v1))))))))
def wpX7_takes_L127 (x1 : Int32) (post : (Nat → Int32) → (Nat → Int32) → Prop) (z0_127 : Int32) (x2_127 : Int32) (x4_127 : Int32) (m_s_127 : Nat → Int32) (m_far_127 : Nat → Int32) : Prop :=
  wpX7_setsPlough x1 1 x4_127 m_s_127 (fun m_s_v11 => wpX7_setsPlough x1 2 x2_127 m_s_v11 (fun m_s_v12 => ((z0_127 = 0 → wpX7_of x2_127 0 m_s_v12 (fun r13 => wpX7_setsPlough x1 0 r13 m_s_v12 (fun m_s_v14 => post m_s_v14 m_far_127))) ∧
  (¬ z0_127 = 0 → wpX7_of x2_127 1 m_s_v12 (fun r15 => wpX7_setsPlough x1 0 r15 m_s_v12 (fun m_s_v16 => post m_s_v16 m_far_127))))))
def wpX7_takes_L19 (x1 : Int32) (x2_19 : Int32) (x3_19 : Int32) (m_far_19 : Nat → Int32) (post : (Nat → Int32) → (Nat → Int32) → Prop) : Nat → Int32 → (Nat → Int32) → Prop
  | 0, _, _ => False
  | n_19 + 1, x4_19, m_s_19 =>
  ((x3_19 ≤ x4_19 → wpX7_setsPlough x1 (4 + x3_19) 0 m_s_19 (fun m_s_v3 => wpX7_setsPlough x1 3 x3_19 m_s_v3 (fun m_s_v4 => wpX7_ofPlough x1 0 m_s_v4 (fun r5 => wpX7_minutes r5 x2_19 m_s_v4 m_far_19 (fun r6 m_far_v6 => ((0 ≤ r6 → wpX7_of x2_19 0 m_s_v4 (fun r7 => (vp_in r7 8 ∧
  wpX7_of x2_19 1 m_s_v4 (fun r9 => (vp_in r9 8 ∧
  (((m_far_v6 r9.toNatClampNeg) < (m_far_v6 r7.toNatClampNeg) → wpX7_takes_L127 x1 post 0 x2_19 r6 m_s_v4 m_far_v6) ∧
  (¬ (m_far_v6 r9.toNatClampNeg) < (m_far_v6 r7.toNatClampNeg) → wpX7_takes_L127 x1 post 1 x2_19 r6 m_s_v4 m_far_v6))))))) ∧
  (¬ 0 ≤ r6 → (vp_in 8 130 ∧
  (vp_in 8 130 ∧
  post (upd m_s_v4 (8 : Int32).toNatClampNeg ((m_s_v4 (8 : Int32).toNatClampNeg) + 1)) m_far_v6))))))))) ∧
  (¬ x3_19 ≤ x4_19 → wpX7_ofPlough x1 ((4 + x4_19) + 1) m_s_19 (fun r19 => wpX7_setsPlough x1 (4 + x4_19) r19 m_s_19 (fun m_s_v20 => wpX7_takes_L19 x1 x2_19 x3_19 m_far_19 post n_19 (x4_19 + 1) m_s_v20))))
def wpX7_takes (x1 : Int32) (m_s : Nat → Int32) (m_far : Nat → Int32) (post : (Nat → Int32) → (Nat → Int32) → Prop) : Prop :=
  wpX7_ofPlough x1 4 m_s (fun r1 => wpX7_ofPlough x1 3 m_s (fun r2 => (∃ n_19, wpX7_takes_L19 x1 r1 (r2 - 1) m_far post n_19 0 m_s)))
def wpX7_clears (x1 : Int32) (m_s : Nat → Int32) (post : (Nat → Int32) → Prop) : Prop :=
  wpX7_ofPlough x1 2 m_s (fun r1 => (vp_in 6 130 ∧
  (vp_in 6 130 ∧
  (vp_in 7 130 ∧
  wpX7_of r1 4 (upd m_s (6 : Int32).toNatClampNeg ((m_s (6 : Int32).toNatClampNeg) + 1)) (fun r5 => (vp_in 7 130 ∧
  wpX7_sets r1 4 0 (upd (upd m_s (6 : Int32).toNatClampNeg ((m_s (6 : Int32).toNatClampNeg) + 1)) (7 : Int32).toNatClampNeg (((upd m_s (6 : Int32).toNatClampNeg ((m_s (6 : Int32).toNatClampNeg) + 1)) (7 : Int32).toNatClampNeg) + r5)) (fun m_s_v7 => wpX7_setsPlough x1 2 0 m_s_v7 (fun m_s_v8 => post m_s_v8))))))))
def wpX7_ploughMinute_L23 (x1 : Int32) (post : Int32 → (Nat → Int32) → (Nat → Int32) → Prop) (m_s_23 : Nat → Int32) (m_far_23 : Nat → Int32) : Prop :=
  wpX7_ofPlough x1 1 m_s_23 (fun r2 => ((¬ r2 = 0 → wpX7_ofPlough x1 1 m_s_23 (fun r3 => wpX7_setsPlough x1 1 (r3 - 1) m_s_23 (fun m_s_v4 => wpX7_ofPlough x1 1 m_s_v4 (fun r5 => ((r5 ≤ 0 → wpX7_ofPlough x1 2 m_s_v4 (fun r6 => wpX7_clears x1 m_s_v4 (fun m_s_v7 => post r6 m_s_v7 m_far_23))) ∧
  (¬ r5 ≤ 0 → post (-1) m_s_v4 m_far_23)))))) ∧
  (r2 = 0 → post (-1) m_s_23 m_far_23)))
def wpX7_ploughMinute (x1 : Int32) (m_s : Nat → Int32) (m_far : Nat → Int32) (post : Int32 → (Nat → Int32) → (Nat → Int32) → Prop) : Prop :=
  wpX7_ofPlough x1 1 m_s (fun r1 => ((¬ r1 = 0 → wpX7_ploughMinute_L23 x1 post m_s m_far) ∧
  (r1 = 0 → wpX7_ofPlough x1 3 m_s (fun r8 => ((r8 ≤ 0 → wpX7_ploughMinute_L23 x1 post m_s m_far) ∧
  (¬ r8 ≤ 0 → wpX7_takes x1 m_s m_far (fun m_s_v9 m_far_v9 => wpX7_ploughMinute_L23 x1 post m_s_v9 m_far_v9)))))))
def wpX7_drifts_L68 (x1_45 : Int32) (m_drift_45 : Nat → Int32) (k45 : Int32 → (Nat → Int32) → Prop) (post : (Nat → Int32) → (Nat → Int32) → Prop) (z0_68 : Int32) (x2_68 : Int32) (m_s_68 : Nat → Int32) : Prop :=
  wpX7_of x2_68 4 m_s_68 (fun r2 => (vp_in x2_68 12 ∧
  (vp_in z0_68 12 ∧
  wpX7_lesser 200 ((r2 - (m_drift_45 x2_68.toNatClampNeg)) + (m_drift_45 z0_68.toNatClampNeg)) (fun r5 => wpX7_sets x2_68 4 r5 m_s_68 (fun m_s_v6 => k45 (x2_68 + 1) m_s_v6)))))
def wpX7_drifts_L45 (x1_45 : Int32) (m_drift_45 : Nat → Int32) (post : (Nat → Int32) → (Nat → Int32) → Prop) : Nat → Int32 → (Nat → Int32) → Prop
  | 0, _, _ => False
  | n_45 + 1, x2_45, m_s_45 =>
  ((x1_45 ≤ x2_45 → post m_s_45 m_drift_45) ∧
  (¬ x1_45 ≤ x2_45 → ((x1_45 ≤ 1 → post m_s_45 m_drift_45) ∧
  (¬ x1_45 ≤ 1 → ((¬ x2_45 = 0 → wpX7_drifts_L68 x1_45 m_drift_45 (fun v1 v2 => wpX7_drifts_L45 x1_45 m_drift_45 post n_45 v1 v2) post (x2_45 - 1) x2_45 m_s_45) ∧
  (x2_45 = 0 → wpX7_drifts_L68 x1_45 m_drift_45 (fun v1 v2 => wpX7_drifts_L45 x1_45 m_drift_45 post n_45 v1 v2) post (x1_45 - 1) x2_45 m_s_45))))))
def wpX7_drifts_L9 (x1_9 : Int32) (m_s_9 : Nat → Int32) (post : (Nat → Int32) → (Nat → Int32) → Prop) : Nat → Int32 → (Nat → Int32) → Prop
  | 0, _, _ => False
  | n_9 + 1, x2_9, m_drift_9 =>
  ((x1_9 ≤ x2_9 → (∃ n_45, wpX7_drifts_L45 x1_9 m_drift_9 post n_45 0 m_s_9)) ∧
  (¬ x1_9 ≤ x2_9 → (vp_in 5 130 ∧
  wpX7_of x2_9 4 m_s_9 (fun r8 => wpX7_lesser (m_s_9 (5 : Int32).toNatClampNeg) (r8 / 4) (fun r9 => (vp_in x2_9 12 ∧
  wpX7_drifts_L9 x1_9 m_s_9 post n_9 (x2_9 + 1) (upd m_drift_9 x2_9.toNatClampNeg r9)))))))
def wpX7_drifts (m_s : Nat → Int32) (m_drift : Nat → Int32) (post : (Nat → Int32) → (Nat → Int32) → Prop) : Prop :=
  (vp_in 1 130 ∧
  (∃ n_9, wpX7_drifts_L9 (m_s (1 : Int32).toNatClampNeg) m_s post n_9 0 m_drift))
def wpX7_hourEnds_L75 (m_drift_75 : Nat → Int32) (post : (Nat → Int32) → (Nat → Int32) → Prop) : Nat → Int32 → (Nat → Int32) → Prop
  | 0, _, _ => False
  | n_75 + 1, x1_75, m_s_75 =>
  (vp_in 1 130 ∧
  (((m_s_75 (1 : Int32).toNatClampNeg) ≤ x1_75 → post m_s_75 m_drift_75) ∧
  (¬ (m_s_75 (1 : Int32).toNatClampNeg) ≤ x1_75 → wpX7_overdue x1_75 m_s_75 (fun r4 => ((r4 = 0 → wpX7_hourEnds_L75 m_drift_75 post n_75 (x1_75 + 1) m_s_75) ∧
  (¬ r4 = 0 → wpX7_of x1_75 6 m_s_75 (fun r5 => wpX7_sets x1_75 6 (r5 + 1) m_s_75 (fun m_s_v6 => (vp_in 9 130 ∧
  (vp_in 9 130 ∧
  wpX7_hourEnds_L75 m_drift_75 post n_75 (x1_75 + 1) (upd m_s_v6 (9 : Int32).toNatClampNeg ((m_s_v6 (9 : Int32).toNatClampNeg) + 1))))))))))))
def wpX7_hourEnds_L47 (m_drift_2 : Nat → Int32) (k2 : Int32 → (Nat → Int32) → Prop) (post : (Nat → Int32) → (Nat → Int32) → Prop) (z0_47 : Int32) (x1_47 : Int32) (m_s_47 : Nat → Int32) : Prop :=
  ((0 ≤ z0_47 → wpX7_sets x1_47 4 z0_47 m_s_47 (fun m_s_v13 => k2 (x1_47 + 1) m_s_v13)) ∧
  (¬ 0 ≤ z0_47 → wpX7_sets x1_47 4 0 m_s_47 (fun m_s_v14 => k2 (x1_47 + 1) m_s_v14)))
def wpX7_hourEnds_L2 (m_drift_2 : Nat → Int32) (post : (Nat → Int32) → (Nat → Int32) → Prop) : Nat → Int32 → (Nat → Int32) → Prop
  | 0, _, _ => False
  | n_2 + 1, x1_2, m_s_2 =>
  (vp_in 1 130 ∧
  (((m_s_2 (1 : Int32).toNatClampNeg) ≤ x1_2 → wpX7_drifts m_s_2 m_drift_2 (fun m_s_v2 m_drift_v2 => (∃ n_75, wpX7_hourEnds_L75 m_drift_v2 post n_75 0 m_s_v2))) ∧
  (¬ (m_s_2 (1 : Int32).toNatClampNeg) ≤ x1_2 → wpX7_of x1_2 4 m_s_2 (fun r9 => (vp_in 4 130 ∧
  wpX7_lesser 200 (r9 + (m_s_2 (4 : Int32).toNatClampNeg)) (fun r11 => wpX7_salted x1_2 m_s_2 (fun r12 => ((r12 = 0 → wpX7_hourEnds_L47 m_drift_2 (fun v1 v2 => wpX7_hourEnds_L2 m_drift_2 post n_2 v1 v2) post r11 x1_2 m_s_2) ∧
  (¬ r12 = 0 → wpX7_hourEnds_L47 m_drift_2 (fun v1 v2 => wpX7_hourEnds_L2 m_drift_2 post n_2 v1 v2) post (r11 - 3) x1_2 m_s_2)))))))))
def wpX7_hourEnds (m_s : Nat → Int32) (m_drift : Nat → Int32) (post : (Nat → Int32) → (Nat → Int32) → Prop) : Prop :=
  (∃ n_2, wpX7_hourEnds_L2 m_drift post n_2 0 m_s)
def wpX7_minutePasses_L14 (x1 : Int32) (m_drift_14 : Nat → Int32) (post : Int32 → (Nat → Int32) → (Nat → Int32) → (Nat → Int32) → Prop) : Nat → Int32 → Int32 → (Nat → Int32) → (Nat → Int32) → Prop
  | 0, _, _, _, _ => False
  | n_14 + 1, x2_14, x3_14, m_s_14, m_far_14 =>
  (vp_in 2 130 ∧
  (((m_s_14 (2 : Int32).toNatClampNeg) ≤ x3_14 → (vp_in 0 130 ∧
  ((¬ ((m_s_14 (0 : Int32).toNatClampNeg) - (m_s_14 (0 : Int32).toNatClampNeg) / 60 * 60) = 0 → (narrow .boolean (.int x2_14) = .int x2_14 ∧
  post x2_14 m_s_14 m_far_14 m_drift_14)) ∧
  (((m_s_14 (0 : Int32).toNatClampNeg) - (m_s_14 (0 : Int32).toNatClampNeg) / 60 * 60) = 0 → wpX7_hourEnds m_s_14 m_drift_14 (fun m_s_v6 m_drift_v6 => (narrow .boolean (.int x2_14) = .int x2_14 ∧
  post x2_14 m_s_v6 m_far_14 m_drift_v6)))))) ∧
  (¬ (m_s_14 (2 : Int32).toNatClampNeg) ≤ x3_14 → wpX7_ploughMinute x3_14 m_s_14 m_far_14 (fun r8 m_s_v8 m_far_v8 => ((¬ r8 = x1 → wpX7_minutePasses_L14 x1 m_drift_14 post n_14 (x2_14 ||| 0) (x3_14 + 1) m_s_v8 m_far_v8) ∧
  (r8 = x1 → wpX7_minutePasses_L14 x1 m_drift_14 post n_14 (x2_14 ||| 1) (x3_14 + 1) m_s_v8 m_far_v8))))))
def wpX7_minutePasses (x1 : Int32) (m_s : Nat → Int32) (m_far : Nat → Int32) (m_drift : Nat → Int32) (post : Int32 → (Nat → Int32) → (Nat → Int32) → (Nat → Int32) → Prop) : Prop :=
  (vp_in 0 130 ∧
  (vp_in 0 130 ∧
  (∃ n_14, wpX7_minutePasses_L14 x1 m_drift post n_14 0 0 (upd m_s (0 : Int32).toNatClampNeg ((m_s (0 : Int32).toNatClampNeg) + 1)) m_far)))
def wpX7_waits_L36 (x1 : Int32) (x2_36 : Int32) (m_thrown_36 : Int32) (post : Int32 → Int32 → Int32 → (Nat → Int32) → (Nat → Int32) → (Nat → Int32) → Prop) : Nat → Int32 → Int32 → (Nat → Int32) → (Nat → Int32) → (Nat → Int32) → Prop
  | 0, _, _, _, _, _ => False
  | n_36 + 1, x3_36, m_answer_36, m_s_36, m_far_36, m_drift_36 =>
  ((x1 ≤ x3_36 → (vp_in 6 130 ∧
  post ((m_s_36 (6 : Int32).toNatClampNeg) - x2_36) m_thrown_36 m_answer_36 m_s_36 m_far_36 m_drift_36)) ∧
  (¬ x1 ≤ x3_36 → wpX7_minutePasses 12 m_s_36 m_far_36 m_drift_36 (fun r5 m_s_v5 m_far_v5 m_drift_v5 => ((r5 = 0 → wpX7_waits_L36 x1 x2_36 m_thrown_36 post n_36 (x3_36 + 1) 0 m_s_v5 m_far_v5 m_drift_v5) ∧
  (¬ r5 = 0 → wpX7_waits_L36 x1 x2_36 m_thrown_36 post n_36 (x3_36 + 1) 1 m_s_v5 m_far_v5 m_drift_v5)))))
def wpX7_waits_L17 (x1 : Int32) (post : Int32 → Int32 → Int32 → (Nat → Int32) → (Nat → Int32) → (Nat → Int32) → Prop) (z1_17 : Int32) (m_thrown_17 : Int32) (m_answer_17 : Int32) (m_s_17 : Nat → Int32) (m_far_17 : Nat → Int32) (m_drift_17 : Nat → Int32) : Prop :=
  wpX7_isThrown z1_17 1 m_thrown_17 (fun r2 m_thrown_v2 => ((r2 = 0 → (vp_in 6 130 ∧
  (∃ n_36, wpX7_waits_L36 x1 (m_s_17 (6 : Int32).toNatClampNeg) m_thrown_v2 post n_36 0 m_answer_17 m_s_17 m_far_17 m_drift_17))) ∧
  (¬ r2 = 0 → post 0 m_thrown_v2 m_answer_17 m_s_17 m_far_17 m_drift_17)))
def wpX7_waits (x1 : Int32) (m_thrown : Int32) (m_answer : Int32) (m_s : Nat → Int32) (m_far : Nat → Int32) (m_drift : Nat → Int32) (post : Int32 → Int32 → Int32 → (Nat → Int32) → (Nat → Int32) → (Nat → Int32) → Prop) : Prop :=
  wpX7_isIn x1 1 600 (fun r1 => ((¬ r1 = 0 → wpX7_waits_L17 x1 post 0 m_thrown m_answer m_s m_far m_drift) ∧
  (r1 = 0 → wpX7_waits_L17 x1 post 1 m_thrown m_answer m_s m_far m_drift)))
def wpX7_advance (x1 : Int32) (m_changes : Int32) (m_thrown : Int32) (m_answer : Int32) (m_s : Nat → Int32) (m_was : Nat → Int32) (m_past : Nat → Int32) (m_far : Nat → Int32) (m_drift : Nat → Int32) (post : Int32 → Int32 → Int32 → Int32 → (Nat → Int32) → (Nat → Int32) → (Nat → Int32) → (Nat → Int32) → (Nat → Int32) → Prop) : Prop :=
  wpX7_keeps m_thrown m_s m_was (fun m_thrown_v1 m_was_v1 => wpX7_waits x1 m_thrown_v1 m_answer m_s m_far m_drift (fun r2 m_thrown_v2 m_answer_v2 m_s_v2 m_far_v2 m_drift_v2 => wpX7_ends r2 m_changes m_thrown_v2 m_was_v1 m_past (fun r3 m_changes_v3 m_past_v3 => post r3 m_changes_v3 m_thrown_v2 m_answer_v2 m_s_v2 m_was_v1 m_past_v3 m_far_v2 m_drift_v2)))
def wpX7_streetCount (m_thrown : Int32) (m_s : Nat → Int32) (post : Int32 → Int32 → Prop) : Prop :=
  (vp_in 1 130 ∧
  post (m_s (1 : Int32).toNatClampNeg) 0)
def wpX7_ofStreet_L14 (x1 : Int32) (x2 : Int32) (m_s : Nat → Int32) (post : Int32 → Int32 → Prop) (z1_14 : Int32) (m_thrown_14 : Int32) : Prop :=
  wpX7_isThrown z1_14 1 m_thrown_14 (fun r2 m_thrown_v2 => ((r2 = 0 → wpX7_of x1 x2 m_s (fun r3 => post r3 m_thrown_v2)) ∧
  (¬ r2 = 0 → post 0 m_thrown_v2)))
def wpX7_ofStreet (x1 : Int32) (x2 : Int32) (m_thrown : Int32) (m_s : Nat → Int32) (post : Int32 → Int32 → Prop) : Prop :=
  wpX7_isStreet x1 m_s (fun r1 => ((¬ r1 = 0 → wpX7_ofStreet_L14 x1 x2 m_s post 0 m_thrown) ∧
  (r1 = 0 → wpX7_ofStreet_L14 x1 x2 m_s post 1 m_thrown)))
def wpX7_lowerEnd (x1 : Int32) (m_thrown : Int32) (m_s : Nat → Int32) (post : Int32 → Int32 → Prop) : Prop :=
  wpX7_ofStreet x1 0 m_thrown m_s (fun r1 m_thrown_v1 => post r1 m_thrown_v1)
def wpX7_higherEnd (x1 : Int32) (m_thrown : Int32) (m_s : Nat → Int32) (post : Int32 → Int32 → Prop) : Prop :=
  wpX7_ofStreet x1 1 m_thrown m_s (fun r1 m_thrown_v1 => post r1 m_thrown_v1)
def wpX7_streetClass (x1 : Int32) (m_thrown : Int32) (m_s : Nat → Int32) (post : Int32 → Int32 → Prop) : Prop :=
  wpX7_ofStreet x1 2 m_thrown m_s (fun r1 m_thrown_v1 => (narrow .char (.int ((r1.toUInt32 % 65536).toInt32)) = .int ((r1.toUInt32 % 65536).toInt32) ∧
  post ((r1.toUInt32 % 65536).toInt32) m_thrown_v1))
def wpX7_length (x1 : Int32) (m_thrown : Int32) (m_s : Nat → Int32) (post : Int32 → Int32 → Prop) : Prop :=
  wpX7_ofStreet x1 3 m_thrown m_s (fun r1 m_thrown_v1 => post r1 m_thrown_v1)
def wpX7_depth (x1 : Int32) (m_thrown : Int32) (m_s : Nat → Int32) (post : Int32 → Int32 → Prop) : Prop :=
  wpX7_ofStreet x1 4 m_thrown m_s (fun r1 m_thrown_v1 => post r1 m_thrown_v1)
def wpX7_isOverdue_L14 (x1 : Int32) (m_s : Nat → Int32) (post : Int32 → Int32 → Prop) (z1_14 : Int32) (m_thrown_14 : Int32) : Prop :=
  wpX7_isThrown z1_14 1 m_thrown_14 (fun r2 m_thrown_v2 => ((¬ r2 = 0 → post 0 m_thrown_v2) ∧
  (r2 = 0 → wpX7_overdue x1 m_s (fun r3 => ((r3 = 0 → post 0 m_thrown_v2) ∧
  (¬ r3 = 0 → post 1 m_thrown_v2))))))
def wpX7_isOverdue (x1 : Int32) (m_thrown : Int32) (m_s : Nat → Int32) (post : Int32 → Int32 → Prop) : Prop :=
  wpX7_isStreet x1 m_s (fun r1 => ((¬ r1 = 0 → wpX7_isOverdue_L14 x1 m_s post 0 m_thrown) ∧
  (r1 = 0 → wpX7_isOverdue_L14 x1 m_s post 1 m_thrown)))
def wpX7_isSalted_L14 (x1 : Int32) (m_s : Nat → Int32) (post : Int32 → Int32 → Prop) (z1_14 : Int32) (m_thrown_14 : Int32) : Prop :=
  wpX7_isThrown z1_14 1 m_thrown_14 (fun r2 m_thrown_v2 => ((¬ r2 = 0 → post 0 m_thrown_v2) ∧
  (r2 = 0 → wpX7_salted x1 m_s (fun r3 => ((r3 = 0 → post 0 m_thrown_v2) ∧
  (¬ r3 = 0 → post 1 m_thrown_v2))))))
def wpX7_isSalted (x1 : Int32) (m_thrown : Int32) (m_s : Nat → Int32) (post : Int32 → Int32 → Prop) : Prop :=
  wpX7_isStreet x1 m_s (fun r1 => ((¬ r1 = 0 → wpX7_isSalted_L14 x1 m_s post 0 m_thrown) ∧
  (r1 = 0 → wpX7_isSalted_L14 x1 m_s post 1 m_thrown)))
def wpX7_saltMinutes_L35 (x1 : Int32) (m_s : Nat → Int32) (post : Int32 → Int32 → Prop) (z1_35 : Int32) (m_thrown_35 : Int32) : Prop :=
  wpX7_isThrown z1_35 2 m_thrown_35 (fun r4 m_thrown_v4 => ((r4 = 0 → wpX7_of x1 5 m_s (fun r5 => (vp_in 0 130 ∧
  post (r5 - (m_s (0 : Int32).toNatClampNeg)) m_thrown_v4))) ∧
  (¬ r4 = 0 → post 0 m_thrown_v4)))
def wpX7_saltMinutes_L14 (x1 : Int32) (m_s : Nat → Int32) (post : Int32 → Int32 → Prop) (z1_14 : Int32) (m_thrown_14 : Int32) : Prop :=
  wpX7_isThrown z1_14 1 m_thrown_14 (fun r2 m_thrown_v2 => ((¬ r2 = 0 → post 0 m_thrown_v2) ∧
  (r2 = 0 → wpX7_salted x1 m_s (fun r3 => ((¬ r3 = 0 → wpX7_saltMinutes_L35 x1 m_s post 0 m_thrown_v2) ∧
  (r3 = 0 → wpX7_saltMinutes_L35 x1 m_s post 1 m_thrown_v2))))))
def wpX7_saltMinutes (x1 : Int32) (m_thrown : Int32) (m_s : Nat → Int32) (post : Int32 → Int32 → Prop) : Prop :=
  wpX7_isStreet x1 m_s (fun r1 => ((¬ r1 = 0 → wpX7_saltMinutes_L14 x1 m_s post 0 m_thrown) ∧
  (r1 = 0 → wpX7_saltMinutes_L14 x1 m_s post 1 m_thrown)))
def wpX7_complaints (x1 : Int32) (m_thrown : Int32) (m_s : Nat → Int32) (post : Int32 → Int32 → Prop) : Prop :=
  wpX7_ofStreet x1 6 m_thrown m_s (fun r1 m_thrown_v1 => post r1 m_thrown_v1)
def wpX7_distance_L52 (x2 : Int32) (m_s : Nat → Int32) (post : Int32 → Int32 → (Nat → Int32) → Prop) (z1_52 : Int32) (m_thrown_52 : Int32) (m_far_52 : Nat → Int32) : Prop :=
  wpX7_isThrown z1_52 2 m_thrown_52 (fun r5 m_thrown_v5 => ((r5 = 0 → (vp_in x2 8 ∧
  post (m_far_52 x2.toNatClampNeg) m_thrown_v5 m_far_52)) ∧
  (¬ r5 = 0 → post 0 m_thrown_v5 m_far_52)))
def wpX7_distance_L20 (x1 : Int32) (x2 : Int32) (m_s : Nat → Int32) (post : Int32 → Int32 → (Nat → Int32) → Prop) (z1_20 : Int32) (m_thrown_20 : Int32) (m_far_20 : Nat → Int32) : Prop :=
  wpX7_isThrown z1_20 1 m_thrown_20 (fun r2 m_thrown_v2 => ((r2 = 0 → wpX7_finds x1 m_s m_far_20 (fun m_far_v3 => (vp_in x2 8 ∧
  (((m_far_v3 x2.toNatClampNeg) < 9999 → wpX7_distance_L52 x2 m_s post 0 m_thrown_v2 m_far_v3) ∧
  (¬ (m_far_v3 x2.toNatClampNeg) < 9999 → wpX7_distance_L52 x2 m_s post 1 m_thrown_v2 m_far_v3))))) ∧
  (¬ r2 = 0 → post 0 m_thrown_v2 m_far_20)))
def wpX7_distance (x1 : Int32) (x2 : Int32) (m_thrown : Int32) (m_s : Nat → Int32) (m_far : Nat → Int32) (post : Int32 → Int32 → (Nat → Int32) → Prop) : Prop :=
  wpX7_isJunction x1 (fun r1 => ((r1 = 0 → wpX7_distance_L20 x1 x2 m_s post 1 m_thrown m_far) ∧
  (¬ r1 = 0 → wpX7_isJunction x2 (fun r7 => ((¬ r7 = 0 → wpX7_distance_L20 x1 x2 m_s post 0 m_thrown m_far) ∧
  (r7 = 0 → wpX7_distance_L20 x1 x2 m_s post 1 m_thrown m_far))))))
def wpX7_distanceByJunctions (x1 : Int32) (x2 : Int32) (m_thrown : Int32) (m_s : Nat → Int32) (m_far : Nat → Int32) (post : Int32 → Int32 → (Nat → Int32) → Prop) : Prop :=
  wpX7_distance x1 x2 m_thrown m_s m_far (fun r1 m_thrown_v1 m_far_v1 => post r1 m_thrown_v1 m_far_v1)
def wpX7_isAhead (x1 : Int32) (x2 : Int32) (m_s : Nat → Int32) (post : Int32 → Prop) : Prop :=
  wpX7_of x1 4 m_s (fun r1 => wpX7_limit x1 m_s (fun r2 => wpX7_of x2 4 m_s (fun r3 => wpX7_limit x2 m_s (fun r4 => (((((r1 - r2) - r3) + r4) = 0 → wpX7_of x2 2 m_s (fun r5 => wpX7_of x1 2 m_s (fun r6 => (((r5 - r6) = 0 → ((x2 ≤ x1 → post 0) ∧
  (¬ x2 ≤ x1 → post 1))) ∧
  (¬ (r5 - r6) = 0 → (((r5 - r6) ≤ 0 → post 0) ∧
  (¬ (r5 - r6) ≤ 0 → post 1))))))) ∧
  (¬ (((r1 - r2) - r3) + r4) = 0 → (((((r1 - r2) - r3) + r4) ≤ 0 → post 0) ∧
  (¬ (((r1 - r2) - r3) + r4) ≤ 0 → post 1))))))))
def wpX7_streetByUrgency_L17 (x1 : Int32) (m_thrown_2 : Int32) (m_s : Nat → Int32) (x2_17 : Int32) (k2 : Int32 → Prop) (post : Int32 → Int32 → Prop) : Nat → Int32 → Int32 → Prop
  | 0, _, _ => False
  | n_17 + 1, x3_17, x4_17 =>
  (vp_in 1 130 ∧
  (((m_s (1 : Int32).toNatClampNeg) ≤ x4_17 → ((¬ x3_17 = x1 → k2 (x2_17 + 1)) ∧
  (x3_17 = x1 → post x2_17 0))) ∧
  (¬ (m_s (1 : Int32).toNatClampNeg) ≤ x4_17 → ((x4_17 = x2_17 → wpX7_streetByUrgency_L17 x1 m_thrown_2 m_s x2_17 k2 post n_17 (x3_17 + 0) (x4_17 + 1)) ∧
  (¬ x4_17 = x2_17 → wpX7_isAhead x4_17 x2_17 m_s (fun r3 => ((r3 = 0 → wpX7_streetByUrgency_L17 x1 m_thrown_2 m_s x2_17 k2 post n_17 (x3_17 + 0) (x4_17 + 1)) ∧
  (¬ r3 = 0 → wpX7_streetByUrgency_L17 x1 m_thrown_2 m_s x2_17 k2 post n_17 (x3_17 + 1) (x4_17 + 1)))))))))
def wpX7_streetByUrgency_L2 (x1 : Int32) (m_s : Nat → Int32) (m_thrown_2 : Int32) (post : Int32 → Int32 → Prop) : Nat → Int32 → Prop
  | 0, _ => False
  | n_2 + 1, x2_2 =>
  (vp_in 1 130 ∧
  (((m_s (1 : Int32).toNatClampNeg) ≤ x2_2 → post 0 1) ∧
  (¬ (m_s (1 : Int32).toNatClampNeg) ≤ x2_2 → (∃ n_17, wpX7_streetByUrgency_L17 x1 m_thrown_2 m_s x2_2 (fun v1 => wpX7_streetByUrgency_L2 x1 m_s m_thrown_2 post n_2 v1) post n_17 0 0))))
def wpX7_streetByUrgency (x1 : Int32) (m_thrown : Int32) (m_s : Nat → Int32) (post : Int32 → Int32 → Prop) : Prop :=
  (∃ n_2, wpX7_streetByUrgency_L2 x1 m_s m_thrown post n_2 0)
def wpX7_ploughCount (m_thrown : Int32) (m_s : Nat → Int32) (post : Int32 → Int32 → Prop) : Prop :=
  (vp_in 2 130 ∧
  post (m_s (2 : Int32).toNatClampNeg) 0)
def wpX7_tellsPlough_L14 (x1 : Int32) (x2 : Int32) (m_s : Nat → Int32) (post : Int32 → Int32 → Prop) (z1_14 : Int32) (m_thrown_14 : Int32) : Prop :=
  wpX7_isThrown z1_14 1 m_thrown_14 (fun r2 m_thrown_v2 => ((r2 = 0 → wpX7_ofPlough x1 x2 m_s (fun r3 => post r3 m_thrown_v2)) ∧
  (¬ r2 = 0 → post 0 m_thrown_v2)))
def wpX7_tellsPlough (x1 : Int32) (x2 : Int32) (m_thrown : Int32) (m_s : Nat → Int32) (post : Int32 → Int32 → Prop) : Prop :=
  wpX7_isPlough x1 m_s (fun r1 => ((¬ r1 = 0 → wpX7_tellsPlough_L14 x1 x2 m_s post 0 m_thrown) ∧
  (r1 = 0 → wpX7_tellsPlough_L14 x1 x2 m_s post 1 m_thrown)))
def wpX7_isBusy (x1 : Int32) (m_thrown : Int32) (m_s : Nat → Int32) (post : Int32 → Int32 → Prop) : Prop :=
  wpX7_tellsPlough x1 1 m_thrown m_s (fun r1 m_thrown_v1 => ((r1 ≤ 0 → post 0 m_thrown_v1) ∧
  (¬ r1 ≤ 0 → post 1 m_thrown_v1)))
def wpX7_junction (x1 : Int32) (m_thrown : Int32) (m_s : Nat → Int32) (post : Int32 → Int32 → Prop) : Prop :=
  wpX7_tellsPlough x1 0 m_thrown m_s (fun r1 m_thrown_v1 => post r1 m_thrown_v1)
def wpX7_currentStreet_L36 (x1 : Int32) (m_s : Nat → Int32) (post : Int32 → Int32 → Prop) (z1_36 : Int32) (m_thrown_36 : Int32) : Prop :=
  wpX7_isThrown z1_36 2 m_thrown_36 (fun r4 m_thrown_v4 => ((r4 = 0 → wpX7_ofPlough x1 2 m_s (fun r5 => post r5 m_thrown_v4)) ∧
  (¬ r4 = 0 → post 0 m_thrown_v4)))
def wpX7_currentStreet_L14 (x1 : Int32) (m_s : Nat → Int32) (post : Int32 → Int32 → Prop) (z1_14 : Int32) (m_thrown_14 : Int32) : Prop :=
  wpX7_isThrown z1_14 1 m_thrown_14 (fun r2 m_thrown_v2 => ((¬ r2 = 0 → post 0 m_thrown_v2) ∧
  (r2 = 0 → wpX7_ofPlough x1 1 m_s (fun r3 => ((¬ r3 = 0 → wpX7_currentStreet_L36 x1 m_s post 0 m_thrown_v2) ∧
  (r3 = 0 → wpX7_currentStreet_L36 x1 m_s post 1 m_thrown_v2))))))
def wpX7_currentStreet (x1 : Int32) (m_thrown : Int32) (m_s : Nat → Int32) (post : Int32 → Int32 → Prop) : Prop :=
  wpX7_isPlough x1 m_s (fun r1 => ((¬ r1 = 0 → wpX7_currentStreet_L14 x1 m_s post 0 m_thrown) ∧
  (r1 = 0 → wpX7_currentStreet_L14 x1 m_s post 1 m_thrown)))
def wpX7_busyMinutes (x1 : Int32) (m_thrown : Int32) (m_s : Nat → Int32) (post : Int32 → Int32 → Prop) : Prop :=
  wpX7_tellsPlough x1 1 m_thrown m_s (fun r1 m_thrown_v1 => post r1 m_thrown_v1)
def wpX7_queueLength (x1 : Int32) (m_thrown : Int32) (m_s : Nat → Int32) (post : Int32 → Int32 → Prop) : Prop :=
  wpX7_tellsPlough x1 3 m_thrown m_s (fun r1 m_thrown_v1 => post r1 m_thrown_v1)
def wpX7_queuedStreet_L43 (x1 : Int32) (x2 : Int32) (m_s : Nat → Int32) (post : Int32 → Int32 → Prop) (z1_43 : Int32) (m_thrown_43 : Int32) : Prop :=
  wpX7_isThrown z1_43 2 m_thrown_43 (fun r5 m_thrown_v5 => ((r5 = 0 → wpX7_ofPlough x1 (4 + x2) m_s (fun r6 => post r6 m_thrown_v5)) ∧
  (¬ r5 = 0 → post 0 m_thrown_v5)))
def wpX7_queuedStreet_L14 (x1 : Int32) (x2 : Int32) (m_s : Nat → Int32) (post : Int32 → Int32 → Prop) (z1_14 : Int32) (m_thrown_14 : Int32) : Prop :=
  wpX7_isThrown z1_14 1 m_thrown_14 (fun r2 m_thrown_v2 => ((¬ r2 = 0 → post 0 m_thrown_v2) ∧
  (r2 = 0 → wpX7_ofPlough x1 3 m_s (fun r3 => wpX7_isIn x2 0 (r3 - 1) (fun r4 => ((¬ r4 = 0 → wpX7_queuedStreet_L43 x1 x2 m_s post 0 m_thrown_v2) ∧
  (r4 = 0 → wpX7_queuedStreet_L43 x1 x2 m_s post 1 m_thrown_v2)))))))
def wpX7_queuedStreet (x1 : Int32) (x2 : Int32) (m_thrown : Int32) (m_s : Nat → Int32) (post : Int32 → Int32 → Prop) : Prop :=
  wpX7_isPlough x1 m_s (fun r1 => ((¬ r1 = 0 → wpX7_queuedStreet_L14 x1 x2 m_s post 0 m_thrown) ∧
  (r1 = 0 → wpX7_queuedStreet_L14 x1 x2 m_s post 1 m_thrown)))
def wpX7_orderMinutes_L22 (x1 : Int32) (x2 : Int32) (m_s : Nat → Int32) (post : Int32 → Int32 → (Nat → Int32) → Prop) (z1_22 : Int32) (m_thrown_22 : Int32) (m_far_22 : Nat → Int32) : Prop :=
  wpX7_isThrown z1_22 1 m_thrown_22 (fun r2 m_thrown_v2 => ((r2 = 0 → wpX7_ofPlough x1 0 m_s (fun r3 => wpX7_minutes r3 x2 m_s m_far_22 (fun r4 m_far_v4 => ((0 ≤ r4 → wpX7_isThrown 0 2 m_thrown_v2 (fun r5 m_thrown_v5 => ((r5 = 0 → post r4 m_thrown_v5 m_far_v4) ∧
  (¬ r5 = 0 → post 0 m_thrown_v5 m_far_v4)))) ∧
  (¬ 0 ≤ r4 → wpX7_isThrown 1 2 m_thrown_v2 (fun r6 m_thrown_v6 => ((r6 = 0 → post r4 m_thrown_v6 m_far_v4) ∧
  (¬ r6 = 0 → post 0 m_thrown_v6 m_far_v4)))))))) ∧
  (¬ r2 = 0 → post 0 m_thrown_v2 m_far_22)))
def wpX7_orderMinutes (x1 : Int32) (x2 : Int32) (m_thrown : Int32) (m_s : Nat → Int32) (m_far : Nat → Int32) (post : Int32 → Int32 → (Nat → Int32) → Prop) : Prop :=
  wpX7_isPlough x1 m_s (fun r1 => ((r1 = 0 → wpX7_orderMinutes_L22 x1 x2 m_s post 1 m_thrown m_far) ∧
  (¬ r1 = 0 → wpX7_isStreet x2 m_s (fun r7 => ((¬ r7 = 0 → wpX7_orderMinutes_L22 x1 x2 m_s post 0 m_thrown m_far) ∧
  (r7 = 0 → wpX7_orderMinutes_L22 x1 x2 m_s post 1 m_thrown m_far))))))
def wpX7_minutesUntilCleared_L59 (post : Int32 → Int32 → (Nat → Int32) → (Nat → Int32) → (Nat → Int32) → (Nat → Int32) → Prop) (x2_59 : Int32) (m_thrown_59 : Int32) (m_s_59 : Nat → Int32) (m_tried_59 : Nat → Int32) (m_far_59 : Nat → Int32) (m_drift_59 : Nat → Int32) : Prop :=
  wpX7_copies 0 0 130 m_tried_59 130 m_s_59 (fun m_s_v4 => ((x2_59 ≤ 600 → wpX7_isThrown 0 2 m_thrown_59 (fun r5 m_thrown_v5 => ((r5 = 0 → post x2_59 m_thrown_v5 m_s_v4 m_tried_59 m_far_59 m_drift_59) ∧
  (¬ r5 = 0 → post 0 m_thrown_v5 m_s_v4 m_tried_59 m_far_59 m_drift_59)))) ∧
  (¬ x2_59 ≤ 600 → wpX7_isThrown 1 2 m_thrown_59 (fun r6 m_thrown_v6 => ((r6 = 0 → post x2_59 m_thrown_v6 m_s_v4 m_tried_59 m_far_59 m_drift_59) ∧
  (¬ r6 = 0 → post 0 m_thrown_v6 m_s_v4 m_tried_59 m_far_59 m_drift_59))))))
def wpX7_minutesUntilCleared_L38 (x1 : Int32) (m_thrown_38 : Int32) (m_tried_38 : Nat → Int32) (post : Int32 → Int32 → (Nat → Int32) → (Nat → Int32) → (Nat → Int32) → (Nat → Int32) → Prop) : Nat → Int32 → (Nat → Int32) → (Nat → Int32) → (Nat → Int32) → Prop
  | 0, _, _, _, _ => False
  | n_38 + 1, x2_38, m_s_38, m_far_38, m_drift_38 =>
  ((600 < x2_38 → wpX7_minutesUntilCleared_L59 post x2_38 m_thrown_38 m_s_38 m_tried_38 m_far_38 m_drift_38) ∧
  (¬ 600 < x2_38 → wpX7_minutePasses x1 m_s_38 m_far_38 m_drift_38 (fun r7 m_s_v7 m_far_v7 m_drift_v7 => ((¬ r7 = 0 → wpX7_minutesUntilCleared_L59 post x2_38 m_thrown_38 m_s_v7 m_tried_38 m_far_v7 m_drift_v7) ∧
  (r7 = 0 → wpX7_minutesUntilCleared_L38 x1 m_thrown_38 m_tried_38 post n_38 (x2_38 + 1) m_s_v7 m_far_v7 m_drift_v7)))))
def wpX7_minutesUntilCleared_L14 (x1 : Int32) (post : Int32 → Int32 → (Nat → Int32) → (Nat → Int32) → (Nat → Int32) → (Nat → Int32) → Prop) (z1_14 : Int32) (m_thrown_14 : Int32) (m_s_14 : Nat → Int32) (m_tried_14 : Nat → Int32) (m_far_14 : Nat → Int32) (m_drift_14 : Nat → Int32) : Prop :=
  wpX7_isThrown z1_14 1 m_thrown_14 (fun r2 m_thrown_v2 => ((r2 = 0 → wpX7_copies 0 0 130 m_s_14 130 m_tried_14 (fun m_tried_v3 => (∃ n_38, wpX7_minutesUntilCleared_L38 x1 m_thrown_v2 m_tried_v3 post n_38 1 m_s_14 m_far_14 m_drift_14))) ∧
  (¬ r2 = 0 → post 0 m_thrown_v2 m_s_14 m_tried_14 m_far_14 m_drift_14)))
def wpX7_minutesUntilCleared (x1 : Int32) (m_thrown : Int32) (m_s : Nat → Int32) (m_tried : Nat → Int32) (m_far : Nat → Int32) (m_drift : Nat → Int32) (post : Int32 → Int32 → (Nat → Int32) → (Nat → Int32) → (Nat → Int32) → (Nat → Int32) → Prop) : Prop :=
  wpX7_isStreet x1 m_s (fun r1 => ((¬ r1 = 0 → wpX7_minutesUntilCleared_L14 x1 post 0 m_thrown m_s m_tried m_far m_drift) ∧
  (r1 = 0 → wpX7_minutesUntilCleared_L14 x1 post 1 m_thrown m_s m_tried m_far m_drift)))
def wpX7_depthAfter_L62 (x1 : Int32) (x2 : Int32) (m_thrown_62 : Int32) (m_tried_62 : Nat → Int32) (post : Int32 → Int32 → Int32 → (Nat → Int32) → (Nat → Int32) → (Nat → Int32) → (Nat → Int32) → Prop) : Nat → Int32 → Int32 → (Nat → Int32) → (Nat → Int32) → (Nat → Int32) → Prop
  | 0, _, _, _, _, _ => False
  | n_62 + 1, x3_62, m_answer_62, m_s_62, m_far_62, m_drift_62 =>
  ((x2 ≤ x3_62 → wpX7_of x1 4 m_s_62 (fun r6 => wpX7_copies 0 0 130 m_tried_62 130 m_s_62 (fun m_s_v7 => post r6 m_thrown_62 m_answer_62 m_s_v7 m_tried_62 m_far_62 m_drift_62))) ∧
  (¬ x2 ≤ x3_62 → wpX7_minutePasses x1 m_s_62 m_far_62 m_drift_62 (fun r8 m_s_v8 m_far_v8 m_drift_v8 => ((r8 = 0 → wpX7_depthAfter_L62 x1 x2 m_thrown_62 m_tried_62 post n_62 (x3_62 + 1) 0 m_s_v8 m_far_v8 m_drift_v8) ∧
  (¬ r8 = 0 → wpX7_depthAfter_L62 x1 x2 m_thrown_62 m_tried_62 post n_62 (x3_62 + 1) 1 m_s_v8 m_far_v8 m_drift_v8)))))
def wpX7_depthAfter_L38 (x1 : Int32) (x2 : Int32) (post : Int32 → Int32 → Int32 → (Nat → Int32) → (Nat → Int32) → (Nat → Int32) → (Nat → Int32) → Prop) (z1_38 : Int32) (m_thrown_38 : Int32) (m_answer_38 : Int32) (m_s_38 : Nat → Int32) (m_tried_38 : Nat → Int32) (m_far_38 : Nat → Int32) (m_drift_38 : Nat → Int32) : Prop :=
  wpX7_isThrown z1_38 2 m_thrown_38 (fun r4 m_thrown_v4 => ((r4 = 0 → wpX7_copies 0 0 130 m_s_38 130 m_tried_38 (fun m_tried_v5 => (∃ n_62, wpX7_depthAfter_L62 x1 x2 m_thrown_v4 m_tried_v5 post n_62 0 m_answer_38 m_s_38 m_far_38 m_drift_38))) ∧
  (¬ r4 = 0 → post 0 m_thrown_v4 m_answer_38 m_s_38 m_tried_38 m_far_38 m_drift_38)))
def wpX7_depthAfter_L14 (x1 : Int32) (x2 : Int32) (post : Int32 → Int32 → Int32 → (Nat → Int32) → (Nat → Int32) → (Nat → Int32) → (Nat → Int32) → Prop) (z1_14 : Int32) (m_thrown_14 : Int32) (m_answer_14 : Int32) (m_s_14 : Nat → Int32) (m_tried_14 : Nat → Int32) (m_far_14 : Nat → Int32) (m_drift_14 : Nat → Int32) : Prop :=
  wpX7_isThrown z1_14 1 m_thrown_14 (fun r2 m_thrown_v2 => ((¬ r2 = 0 → post 0 m_thrown_v2 m_answer_14 m_s_14 m_tried_14 m_far_14 m_drift_14) ∧
  (r2 = 0 → wpX7_isIn x2 0 600 (fun r3 => ((¬ r3 = 0 → wpX7_depthAfter_L38 x1 x2 post 0 m_thrown_v2 m_answer_14 m_s_14 m_tried_14 m_far_14 m_drift_14) ∧
  (r3 = 0 → wpX7_depthAfter_L38 x1 x2 post 1 m_thrown_v2 m_answer_14 m_s_14 m_tried_14 m_far_14 m_drift_14))))))
def wpX7_depthAfter (x1 : Int32) (x2 : Int32) (m_thrown : Int32) (m_answer : Int32) (m_s : Nat → Int32) (m_tried : Nat → Int32) (m_far : Nat → Int32) (m_drift : Nat → Int32) (post : Int32 → Int32 → Int32 → (Nat → Int32) → (Nat → Int32) → (Nat → Int32) → (Nat → Int32) → Prop) : Prop :=
  wpX7_isStreet x1 m_s (fun r1 => ((¬ r1 = 0 → wpX7_depthAfter_L14 x1 x2 post 0 m_thrown m_answer m_s m_tried m_far m_drift) ∧
  (r1 = 0 → wpX7_depthAfter_L14 x1 x2 post 1 m_thrown m_answer m_s m_tried m_far m_drift)))
def wpX7_time (m_thrown : Int32) (m_s : Nat → Int32) (post : Int32 → Int32 → Prop) : Prop :=
  (vp_in 0 130 ∧
  post (m_s (0 : Int32).toNatClampNeg) 0)
def wpX7_saltStore (m_thrown : Int32) (m_s : Nat → Int32) (post : Int32 → Int32 → Prop) : Prop :=
  (vp_in 3 130 ∧
  post (m_s (3 : Int32).toNatClampNeg) 0)
def wpX7_snowfall (m_thrown : Int32) (m_s : Nat → Int32) (post : Int32 → Int32 → Prop) : Prop :=
  (vp_in 4 130 ∧
  post (m_s (4 : Int32).toNatClampNeg) 0)
def wpX7_wind (m_thrown : Int32) (m_s : Nat → Int32) (post : Int32 → Int32 → Prop) : Prop :=
  (vp_in 5 130 ∧
  post (m_s (5 : Int32).toNatClampNeg) 0)
def wpX7_clearedTotal (m_thrown : Int32) (m_s : Nat → Int32) (post : Int32 → Int32 → Prop) : Prop :=
  (vp_in 6 130 ∧
  post (m_s (6 : Int32).toNatClampNeg) 0)
def wpX7_ploughedTotal (m_thrown : Int32) (m_s : Nat → Int32) (post : Int32 → Int32 → Prop) : Prop :=
  (vp_in 7 130 ∧
  post (m_s (7 : Int32).toNatClampNeg) 0)
def wpX7_failedOrders (m_thrown : Int32) (m_s : Nat → Int32) (post : Int32 → Int32 → Prop) : Prop :=
  (vp_in 8 130 ∧
  post (m_s (8 : Int32).toNatClampNeg) 0)
def wpX7_complaintTotal (m_thrown : Int32) (m_s : Nat → Int32) (post : Int32 → Int32 → Prop) : Prop :=
  (vp_in 9 130 ∧
  post (m_s (9 : Int32).toNatClampNeg) 0)
def wpX7_isConsistent_L11 (m_s : Nat → Int32) (m_thrown_11 : Int32) (post : Int32 → Int32 → Prop) : Nat → Int32 → Int32 → Int32 → Prop
  | 0, _, _, _ => False
  | n_11 + 1, x1_11, x2_11, x3_11 =>
  (vp_in 1 130 ∧
  (((m_s (1 : Int32).toNatClampNeg) ≤ x3_11 → ((x2_11 = 0 → post 0 m_thrown_11) ∧
  (¬ x2_11 = 0 → (vp_in 9 130 ∧
  ((¬ x1_11 = (m_s (9 : Int32).toNatClampNeg) → post 0 m_thrown_11) ∧
  (x1_11 = (m_s (9 : Int32).toNatClampNeg) → post 1 m_thrown_11)))))) ∧
  (¬ (m_s (1 : Int32).toNatClampNeg) ≤ x3_11 → wpX7_of x3_11 6 m_s (fun r3 => wpX7_of x3_11 4 m_s (fun r4 => wpX7_isIn r4 0 200 (fun r5 => wpX7_isConsistent_L11 m_s m_thrown_11 post n_11 (x1_11 + r3) (x2_11 &&& r5) (x3_11 + 1)))))))
def wpX7_isConsistent (m_thrown : Int32) (m_s : Nat → Int32) (post : Int32 → Int32 → Prop) : Prop :=
  (∃ n_11, wpX7_isConsistent_L11 m_s 0 post n_11 0 1 0)
def wpX7_puts (x1 : Int32) (m_lined : Int32) (m_line : Nat → Int32) (post : Int32 → (Nat → Int32) → Prop) : Prop :=
  (vp_in m_lined 40 ∧
  post (m_lined + 1) (upd m_line m_lined.toNatClampNeg x1))
def wpX7_outputAt_L20 (x1 : Int32) (m_lined : Int32) (m_line : Nat → Int32) (post : Int32 → Int32 → Prop) (z1_20 : Int32) (m_thrown_20 : Int32) : Prop :=
  wpX7_isThrown z1_20 1 m_thrown_20 (fun r2 m_thrown_v2 => ((r2 = 0 → (vp_in x1 40 ∧
  (narrow .char (.int (((m_line x1.toNatClampNeg).toUInt32 % 65536).toInt32)) = .int (((m_line x1.toNatClampNeg).toUInt32 % 65536).toInt32) ∧
  post (((m_line x1.toNatClampNeg).toUInt32 % 65536).toInt32) m_thrown_v2))) ∧
  (¬ r2 = 0 → post 0 m_thrown_v2)))
def wpX7_outputAt (x1 : Int32) (m_thrown : Int32) (m_lined : Int32) (m_line : Nat → Int32) (post : Int32 → Int32 → Prop) : Prop :=
  wpX7_isIn x1 0 (m_lined - 1) (fun r1 => ((¬ r1 = 0 → wpX7_outputAt_L20 x1 m_lined m_line post 0 m_thrown) ∧
  (r1 = 0 → wpX7_outputAt_L20 x1 m_lined m_line post 1 m_thrown)))
def wpX7_type_L39 (x1 : Int32) (post : Int32 → Int32 → Int32 → (Nat → Int32) → Prop) (z1_39 : Int32) (m_thrown_39 : Int32) (m_taped_39 : Int32) (m_tape_39 : Nat → Int32) : Prop :=
  wpX7_isThrown z1_39 2 m_thrown_39 (fun r3 m_thrown_v3 => ((r3 = 0 → (vp_in m_taped_39 60 ∧
  post (m_taped_39 + 1) m_thrown_v3 (m_taped_39 + 1) (upd m_tape_39 m_taped_39.toNatClampNeg x1))) ∧
  (¬ r3 = 0 → post 0 m_thrown_v3 m_taped_39 m_tape_39)))
def wpX7_type_L17 (x1 : Int32) (post : Int32 → Int32 → Int32 → (Nat → Int32) → Prop) (z1_17 : Int32) (m_thrown_17 : Int32) (m_taped_17 : Int32) (m_tape_17 : Nat → Int32) : Prop :=
  wpX7_isThrown z1_17 1 m_thrown_17 (fun r2 m_thrown_v2 => ((¬ r2 = 0 → post 0 m_thrown_v2 m_taped_17 m_tape_17) ∧
  (r2 = 0 → ((¬ m_taped_17 = 60 → wpX7_type_L39 x1 post 0 m_thrown_v2 m_taped_17 m_tape_17) ∧
  (m_taped_17 = 60 → wpX7_type_L39 x1 post 1 m_thrown_v2 m_taped_17 m_tape_17)))))
def wpX7_type (x1 : Int32) (m_thrown : Int32) (m_taped : Int32) (m_tape : Nat → Int32) (post : Int32 → Int32 → Int32 → (Nat → Int32) → Prop) : Prop :=
  wpX7_isIn x1 32 126 (fun r1 => ((¬ r1 = 0 → wpX7_type_L17 x1 post 0 m_thrown m_taped m_tape) ∧
  (r1 = 0 → wpX7_type_L17 x1 post 1 m_thrown m_taped m_tape)))
def wpX7_sign (m_taped : Int32) (m_here : Int32) (m_tape : Nat → Int32) (post : Int32 → Prop) : Prop :=
  ((m_taped ≤ m_here → post (-1)) ∧
  (¬ m_taped ≤ m_here → (vp_in m_here 60 ∧
  post (m_tape m_here.toNatClampNeg))))
def wpX7_isSign_L13 (m_taped : Int32) (m_tape : Nat → Int32) (post : Int32 → Int32 → Prop) (z0_13 : Int32) (m_here_13 : Int32) : Prop :=
  ((z0_13 = 0 → (narrow .boolean (.int z0_13) = .int z0_13 ∧
  post z0_13 (m_here_13 + 0))) ∧
  (¬ z0_13 = 0 → (narrow .boolean (.int z0_13) = .int z0_13 ∧
  post z0_13 (m_here_13 + 1))))
def wpX7_isSign (x1 : Int32) (m_taped : Int32) (m_here : Int32) (m_tape : Nat → Int32) (post : Int32 → Int32 → Prop) : Prop :=
  wpX7_sign m_taped m_here m_tape (fun r1 => ((¬ r1 = x1 → wpX7_isSign_L13 m_taped m_tape post 0 m_here) ∧
  (r1 = x1 → wpX7_isSign_L13 m_taped m_tape post 1 m_here)))
def wpX7_isNumber_L54 (x2 : Int32) (m_taped : Int32) (m_tape : Nat → Int32) (post : Int32 → Int32 → (Nat → Int32) → Prop) (x3_54 : Int32) (x4_54 : Int32) (m_here_54 : Int32) (m_commands_54 : Nat → Int32) : Prop :=
  (vp_in x2 155 ∧
  ((x4_54 ≤ 0 → post 0 m_here_54 (upd m_commands_54 x2.toNatClampNeg x3_54)) ∧
  (¬ x4_54 ≤ 0 → post 1 m_here_54 (upd m_commands_54 x2.toNatClampNeg x3_54))))
def wpX7_isNumber_L5 (x1 : Int32) (x2 : Int32) (m_taped : Int32) (m_tape : Nat → Int32) (m_commands_5 : Nat → Int32) (post : Int32 → Int32 → (Nat → Int32) → Prop) : Nat → Int32 → Int32 → Int32 → Prop
  | 0, _, _, _ => False
  | n_5 + 1, x3_5, x4_5, m_here_5 =>
  ((x1 ≤ x4_5 → wpX7_isNumber_L54 x2 m_taped m_tape post x3_5 x4_5 m_here_5 m_commands_5) ∧
  (¬ x1 ≤ x4_5 → wpX7_sign m_taped m_here_5 m_tape (fun r2 => wpX7_isIn r2 48 57 (fun r3 => ((r3 = 0 → wpX7_isNumber_L54 x2 m_taped m_tape post x3_5 x4_5 m_here_5 m_commands_5) ∧
  (¬ r3 = 0 → wpX7_sign m_taped m_here_5 m_tape (fun r4 => wpX7_isNumber_L5 x1 x2 m_taped m_tape m_commands_5 post n_5 (((10 * x3_5) + r4) - 48) (x4_5 + 1) (m_here_5 + 1))))))))
def wpX7_isNumber (x1 : Int32) (x2 : Int32) (m_taped : Int32) (m_here : Int32) (m_tape : Nat → Int32) (m_commands : Nat → Int32) (post : Int32 → Int32 → (Nat → Int32) → Prop) : Prop :=
  (∃ n_5, wpX7_isNumber_L5 x1 x2 m_taped m_tape m_commands post n_5 0 0 m_here)
def wpX7_isClass (x1 : Int32) (m_taped : Int32) (m_here : Int32) (m_tape : Nat → Int32) (m_commands : Nat → Int32) (post : Int32 → Int32 → (Nat → Int32) → Prop) : Prop :=
  wpX7_sign m_taped m_here m_tape (fun r1 => (vp_in x1 155 ∧
  wpX7_isSign 97 m_taped m_here m_tape (fun r3 m_here_v3 => ((¬ r3 = 0 → post 1 m_here_v3 (upd m_commands x1.toNatClampNeg r1)) ∧
  (r3 = 0 → wpX7_isSign 98 m_taped m_here_v3 m_tape (fun r4 m_here_v4 => ((¬ r4 = 0 → post 1 m_here_v4 (upd m_commands x1.toNatClampNeg r1)) ∧
  (r4 = 0 → wpX7_isSign 99 m_taped m_here_v4 m_tape (fun r5 m_here_v5 => ((r5 = 0 → post 0 m_here_v5 (upd m_commands x1.toNatClampNeg r1)) ∧
  (¬ r5 = 0 → post 1 m_here_v5 (upd m_commands x1.toNatClampNeg r1))))))))))))
def wpX7_isFirst (x0 : Int32) (post : Int32 → Prop) : Prop :=
  ((x0 = 115 → post 1) ∧
  (¬ x0 = 115 → ((x0 = 119 → post 1) ∧
  (¬ x0 = 119 → ((x0 = 112 → post 1) ∧
  (¬ x0 = 112 → ((x0 = 111 → post 1) ∧
  (¬ x0 = 111 → ((x0 = 99 → post 1) ∧
  (¬ x0 = 99 → ((¬ x0 = 108 → post 0) ∧
  (x0 = 108 → post 1))))))))))))
def wpX7_does (x1 : Int32) (m_thrown : Int32) (m_answer : Int32) (m_s : Nat → Int32) (m_far : Nat → Int32) (m_drift : Nat → Int32) (m_commands : Nat → Int32) (post : Int32 → Int32 → Int32 → (Nat → Int32) → (Nat → Int32) → (Nat → Int32) → Prop) : Prop :=
  (vp_in (x1 + 1) 155 ∧
  (vp_in (x1 + 2) 155 ∧
  (vp_in x1 155 ∧
  (((m_commands x1.toNatClampNeg) = 83 → wpX7_salts (m_commands (x1 + 1).toNatClampNeg) m_thrown m_s (fun r4 m_thrown_v4 m_s_v4 => post r4 m_thrown_v4 m_answer m_s_v4 m_far m_drift)) ∧
  (¬ (m_commands x1.toNatClampNeg) = 83 → (((m_commands x1.toNatClampNeg) = 99 → wpX7_cancels (m_commands (x1 + 1).toNatClampNeg) m_thrown m_s (fun r5 m_thrown_v5 m_s_v5 => post r5 m_thrown_v5 m_answer m_s_v5 m_far m_drift)) ∧
  (¬ (m_commands x1.toNatClampNeg) = 99 → (((m_commands x1.toNatClampNeg) = 110 → wpX7_tells 4 (m_commands (x1 + 1).toNatClampNeg) m_thrown m_s (fun r6 m_thrown_v6 m_s_v6 => post r6 m_thrown_v6 m_answer m_s_v6 m_far m_drift)) ∧
  (¬ (m_commands x1.toNatClampNeg) = 110 → (((m_commands x1.toNatClampNeg) = 111 → wpX7_orders (m_commands (x1 + 1).toNatClampNeg) (m_commands (x1 + 2).toNatClampNeg) m_thrown m_s (fun r7 m_thrown_v7 m_s_v7 => post r7 m_thrown_v7 m_answer m_s_v7 m_far m_drift)) ∧
  (¬ (m_commands x1.toNatClampNeg) = 111 → (((m_commands x1.toNatClampNeg) = 112 → wpX7_ploughs (m_commands (x1 + 1).toNatClampNeg) m_thrown m_s (fun r8 m_thrown_v8 m_s_v8 => post r8 m_thrown_v8 m_answer m_s_v8 m_far m_drift)) ∧
  (¬ (m_commands x1.toNatClampNeg) = 112 → (((m_commands x1.toNatClampNeg) = 115 → (vp_in (x1 + 3) 155 ∧
  (vp_in (x1 + 4) 155 ∧
  wpX7_streets (m_commands (x1 + 1).toNatClampNeg) (m_commands (x1 + 2).toNatClampNeg) (m_commands (x1 + 3).toNatClampNeg) (m_commands (x1 + 4).toNatClampNeg) m_thrown m_s (fun r11 m_thrown_v11 m_s_v11 => post r11 m_thrown_v11 m_answer m_s_v11 m_far m_drift)))) ∧
  (¬ (m_commands x1.toNatClampNeg) = 115 → (((m_commands x1.toNatClampNeg) = 116 → wpX7_waits (m_commands (x1 + 1).toNatClampNeg) m_thrown m_answer m_s m_far m_drift (fun r12 m_thrown_v12 m_answer_v12 m_s_v12 m_far_v12 m_drift_v12 => post r12 m_thrown_v12 m_answer_v12 m_s_v12 m_far_v12 m_drift_v12)) ∧
  (¬ (m_commands x1.toNatClampNeg) = 116 → (((m_commands x1.toNatClampNeg) = 119 → wpX7_tells 5 (m_commands (x1 + 1).toNatClampNeg) m_thrown m_s (fun r13 m_thrown_v13 m_s_v13 => post r13 m_thrown_v13 m_answer m_s_v13 m_far m_drift)) ∧
  (¬ (m_commands x1.toNatClampNeg) = 119 → wpX7_loads (m_commands (x1 + 1).toNatClampNeg) m_thrown m_s (fun r14 m_thrown_v14 m_s_v14 => post r14 m_thrown_v14 m_answer m_s_v14 m_far m_drift))))))))))))))))))))
def wpX7_errorPosition (m_thrown : Int32) (m_errorAt : Int32) (post : Int32 → Int32 → Prop) : Prop :=
  ((0 ≤ m_errorAt → wpX7_isThrown 0 1 m_thrown (fun r1 m_thrown_v1 => ((r1 = 0 → post m_errorAt m_thrown_v1) ∧
  (¬ r1 = 0 → post 0 m_thrown_v1)))) ∧
  (¬ 0 ≤ m_errorAt → wpX7_isThrown 1 1 m_thrown (fun r2 m_thrown_v2 => ((r2 = 0 → post m_errorAt m_thrown_v2) ∧
  (¬ r2 = 0 → post 0 m_thrown_v2)))))
def wpX7_failedCommand (m_thrown : Int32) (m_failedAt : Int32) (post : Int32 → Int32 → Prop) : Prop :=
  ((0 ≤ m_failedAt → wpX7_isThrown 0 1 m_thrown (fun r1 m_thrown_v1 => ((r1 = 0 → post m_failedAt m_thrown_v1) ∧
  (¬ r1 = 0 → post 0 m_thrown_v1)))) ∧
  (¬ 0 ≤ m_failedAt → wpX7_isThrown 1 1 m_thrown (fun r2 m_thrown_v2 => ((r2 = 0 → post m_failedAt m_thrown_v2) ∧
  (¬ r2 = 0 → post 0 m_thrown_v2)))))
def wpX7_undo_L13 (m_past : Nat → Int32) (post : Int32 → Int32 → Int32 → (Nat → Int32) → Prop) (z1_13 : Int32) (m_changes_13 : Int32) (m_thrown_13 : Int32) (m_s_13 : Nat → Int32) : Prop :=
  wpX7_isThrown z1_13 1 m_thrown_13 (fun r1 m_thrown_v1 => ((r1 = 0 → wpX7_copies (130 * (m_changes_13 - 1)) 0 1040 m_past 130 m_s_13 (fun m_s_v2 => post (m_changes_13 - 1) (m_changes_13 - 1) m_thrown_v1 m_s_v2)) ∧
  (¬ r1 = 0 → post 0 m_changes_13 m_thrown_v1 m_s_13)))
def wpX7_undo (m_changes : Int32) (m_thrown : Int32) (m_s : Nat → Int32) (m_past : Nat → Int32) (post : Int32 → Int32 → Int32 → (Nat → Int32) → Prop) : Prop :=
  ((¬ m_changes = 0 → wpX7_undo_L13 m_past post 0 m_changes m_thrown m_s) ∧
  (m_changes = 0 → wpX7_undo_L13 m_past post 1 m_changes m_thrown m_s))
def wpX7_save (m_thrown : Int32) (m_isSaved : Int32) (m_s : Nat → Int32) (m_saved : Nat → Int32) (post : Int32 → Int32 → Int32 → (Nat → Int32) → Prop) : Prop :=
  wpX7_copies 0 0 130 m_s 130 m_saved (fun m_saved_v1 => (vp_in 1 130 ∧
  post (m_s (1 : Int32).toNatClampNeg) 0 1 m_saved_v1))
def wpX7_restore_L13 (m_isSaved : Int32) (m_saved : Nat → Int32) (post : Int32 → Int32 → Int32 → (Nat → Int32) → Prop) (z1_13 : Int32) (m_changes_13 : Int32) (m_thrown_13 : Int32) (m_s_13 : Nat → Int32) : Prop :=
  wpX7_isThrown z1_13 1 m_thrown_13 (fun r1 m_thrown_v1 => ((r1 = 0 → wpX7_copies 0 0 130 m_saved 130 m_s_13 (fun m_s_v2 => (vp_in 1 130 ∧
  post (m_s_v2 (1 : Int32).toNatClampNeg) 0 m_thrown_v1 m_s_v2))) ∧
  (¬ r1 = 0 → post 0 m_changes_13 m_thrown_v1 m_s_13)))
def wpX7_restore (m_changes : Int32) (m_thrown : Int32) (m_isSaved : Int32) (m_s : Nat → Int32) (m_saved : Nat → Int32) (post : Int32 → Int32 → Int32 → (Nat → Int32) → Prop) : Prop :=
  ((¬ m_isSaved = 0 → wpX7_restore_L13 m_isSaved m_saved post 0 m_changes m_thrown m_s) ∧
  (m_isSaved = 0 → wpX7_restore_L13 m_isSaved m_saved post 1 m_changes m_thrown m_s))
