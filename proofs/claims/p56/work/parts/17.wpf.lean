/-! the faces' predicates: by program (wip/whole/gen) -/
def wpX6_streetCount (s_count : Int32) (post : Int32 → Prop) : Prop :=
  post s_count
def wpX6_lowerEnd (x1 : Int32) (s_lower : Nat → Int32) (s_count : Int32) (post : Int32 → Prop) (px : String → Prop) : Prop :=
  wpX4_has x1 s_count (fun r1 => ((¬ r1 = 0 → (vp_in x1 12 ∧
  post (s_lower x1.toNatClampNeg))) ∧
  (r1 = 0 → px "java/lang/IndexOutOfBoundsException")))
def wpX6_higherEnd (x1 : Int32) (s_higher : Nat → Int32) (s_count : Int32) (post : Int32 → Prop) (px : String → Prop) : Prop :=
  wpX4_has x1 s_count (fun r1 => ((¬ r1 = 0 → (vp_in x1 12 ∧
  post (s_higher x1.toNatClampNeg))) ∧
  (r1 = 0 → px "java/lang/IndexOutOfBoundsException")))
def wpX6_streetClass (x1 : Int32) (s_kind : Nat → Int32) (s_count : Int32) (post : Int32 → Prop) (px : String → Prop) : Prop :=
  wpX4_has x1 s_count (fun r1 => ((¬ r1 = 0 → (vp_in x1 12 ∧
  (narrow .char (.int (s_kind x1.toNatClampNeg)) = .int (s_kind x1.toNatClampNeg) ∧
  post (s_kind x1.toNatClampNeg)))) ∧
  (r1 = 0 → px "java/lang/IndexOutOfBoundsException")))
def wpX6_length (x1 : Int32) (s_size : Nat → Int32) (s_count : Int32) (post : Int32 → Prop) (px : String → Prop) : Prop :=
  wpX4_has x1 s_count (fun r1 => ((¬ r1 = 0 → (vp_in x1 12 ∧
  post (s_size x1.toNatClampNeg))) ∧
  (r1 = 0 → px "java/lang/IndexOutOfBoundsException")))
def wpX6_depth (x1 : Int32) (s_snow : Nat → Int32) (s_count : Int32) (post : Int32 → Prop) (px : String → Prop) : Prop :=
  wpX4_has x1 s_count (fun r1 => ((¬ r1 = 0 → (vp_in x1 12 ∧
  post (s_snow x1.toNatClampNeg))) ∧
  (r1 = 0 → px "java/lang/IndexOutOfBoundsException")))
def wpX6_isOverdue (x1 : Int32) (s_kind : Nat → Int32) (s_snow : Nat → Int32) (s_count : Int32) (post : Int32 → Prop) (px : String → Prop) : Prop :=
  wpX4_has x1 s_count (fun r1 => ((¬ r1 = 0 → wpX4_excess x1 s_kind s_snow s_count (fun r2 => ((r2 ≤ 0 → post 0) ∧
  (¬ r2 ≤ 0 → post 1)))) ∧
  (r1 = 0 → px "java/lang/IndexOutOfBoundsException")))
def wpX6_isSalted (x1 : Int32) (t_time : Int32) (s_saltEnd : Nat → Int32) (s_count : Int32) (post : Int32 → Prop) (px : String → Prop) : Prop :=
  wpX4_has x1 s_count (fun r1 => ((¬ r1 = 0 → wpX4_saltLeft x1 t_time s_saltEnd s_count (fun r2 => ((r2 ≤ 0 → post 0) ∧
  (¬ r2 ≤ 0 → post 1)))) ∧
  (r1 = 0 → px "java/lang/IndexOutOfBoundsException")))
def wpX6_saltMinutes (x1 : Int32) (t_time : Int32) (s_saltEnd : Nat → Int32) (s_count : Int32) (post : Int32 → Prop) (px : String → Prop) : Prop :=
  wpX4_has x1 s_count (fun r1 => ((¬ r1 = 0 → wpX4_saltLeft x1 t_time s_saltEnd s_count (fun r2 => ((0 < r2 → post r2) ∧
  (¬ 0 < r2 → px "java/util/NoSuchElementException")))) ∧
  (r1 = 0 → px "java/lang/IndexOutOfBoundsException")))
def wpX6_complaints (x1 : Int32) (s_complained : Nat → Int32) (s_count : Int32) (post : Int32 → Prop) (px : String → Prop) : Prop :=
  wpX4_has x1 s_count (fun r1 => ((¬ r1 = 0 → (vp_in x1 12 ∧
  post (s_complained x1.toNatClampNeg))) ∧
  (r1 = 0 → px "java/lang/IndexOutOfBoundsException")))
def wpX6_distance (x1 : Int32) (x2 : Int32) (w_reach : Nat → Int32) (w_settled : Nat → Int32) (s_lower : Nat → Int32) (s_higher : Nat → Int32) (s_size : Nat → Int32) (s_count : Int32) (post : Int32 → (Nat → Int32) → (Nat → Int32) → Prop) (px : String → (Nat → Int32) → (Nat → Int32) → Prop) : Prop :=
  wpX6_isJunction x1 (fun r1 => ((r1 = 0 → px "java/lang/IndexOutOfBoundsException" w_reach w_settled) ∧
  (¬ r1 = 0 → wpX6_isJunction x2 (fun r2 => ((¬ r2 = 0 → wpX1_measureFrom x1 w_reach w_settled s_lower s_higher s_size s_count (fun w_reach_v3 w_settled_v3 => wpX1_reachOf x2 w_reach_v3 (fun r4 => ((r4 < 1000000 → post r4 w_reach_v3 w_settled_v3) ∧
  (¬ r4 < 1000000 → px "java/util/NoSuchElementException" w_reach_v3 w_settled_v3))))) ∧
  (r2 = 0 → px "java/lang/IndexOutOfBoundsException" w_reach w_settled))))))
def wpX6_distanceByJunctions (x1 : Int32) (x2 : Int32) (w_table : Nat → Int32) (s_lower : Nat → Int32) (s_higher : Nat → Int32) (s_size : Nat → Int32) (s_count : Int32) (post : Int32 → (Nat → Int32) → Prop) (px : String → (Nat → Int32) → Prop) : Prop :=
  wpX6_isJunction x1 (fun r1 => ((r1 = 0 → px "java/lang/IndexOutOfBoundsException" w_table) ∧
  (¬ r1 = 0 → wpX6_isJunction x2 (fun r2 => ((¬ r2 = 0 → wpX1_improveAll w_table s_lower s_higher s_size s_count (fun w_table_v3 => wpX1_between x1 x2 w_table_v3 (fun r4 => ((r4 < 1000000 → post r4 w_table_v3) ∧
  (¬ r4 < 1000000 → px "java/util/NoSuchElementException" w_table_v3))))) ∧
  (r2 = 0 → px "java/lang/IndexOutOfBoundsException" w_table))))))
def wpX6_streetByUrgency (x1 : Int32) (s_kind : Nat → Int32) (s_snow : Nat → Int32) (s_count : Int32) (post : Int32 → Prop) (px : String → Prop) : Prop :=
  wpX4_atRank x1 s_kind s_snow s_count (fun r1 => ((0 ≤ r1 → post r1) ∧
  (¬ 0 ≤ r1 → px "java/util/NoSuchElementException")))
def wpX6_ploughCount (q_count : Int32) (post : Int32 → Prop) : Prop :=
  post q_count
def wpX6_isBusy (x1 : Int32) (q_minutesLeft : Nat → Int32) (q_count : Int32) (post : Int32 → Prop) (px : String → Prop) : Prop :=
  wpX2_has x1 q_count (fun r1 => ((¬ r1 = 0 → (vp_in x1 4 ∧
  (((q_minutesLeft x1.toNatClampNeg) ≤ 0 → post 0) ∧
  (¬ (q_minutesLeft x1.toNatClampNeg) ≤ 0 → post 1)))) ∧
  (r1 = 0 → px "java/lang/IndexOutOfBoundsException")))
def wpX6_junction (x1 : Int32) (q_place : Nat → Int32) (q_count : Int32) (post : Int32 → Prop) (px : String → Prop) : Prop :=
  wpX2_has x1 q_count (fun r1 => ((¬ r1 = 0 → (vp_in x1 4 ∧
  post (q_place x1.toNatClampNeg))) ∧
  (r1 = 0 → px "java/lang/IndexOutOfBoundsException")))
def wpX6_currentStreet (x1 : Int32) (q_target : Nat → Int32) (q_minutesLeft : Nat → Int32) (q_count : Int32) (post : Int32 → Prop) (px : String → Prop) : Prop :=
  wpX2_has x1 q_count (fun r1 => ((¬ r1 = 0 → (vp_in x1 4 ∧
  ((0 < (q_minutesLeft x1.toNatClampNeg) → (vp_in x1 4 ∧
  post (q_target x1.toNatClampNeg))) ∧
  (¬ 0 < (q_minutesLeft x1.toNatClampNeg) → px "java/util/NoSuchElementException")))) ∧
  (r1 = 0 → px "java/lang/IndexOutOfBoundsException")))
def wpX6_busyMinutes (x1 : Int32) (q_minutesLeft : Nat → Int32) (q_count : Int32) (post : Int32 → Prop) (px : String → Prop) : Prop :=
  wpX2_has x1 q_count (fun r1 => ((¬ r1 = 0 → (vp_in x1 4 ∧
  post (q_minutesLeft x1.toNatClampNeg))) ∧
  (r1 = 0 → px "java/lang/IndexOutOfBoundsException")))
def wpX6_queueLength (x1 : Int32) (q_waiting : Nat → Int32) (q_count : Int32) (post : Int32 → Prop) (px : String → Prop) : Prop :=
  wpX2_has x1 q_count (fun r1 => ((¬ r1 = 0 → (vp_in x1 4 ∧
  post (q_waiting x1.toNatClampNeg))) ∧
  (r1 = 0 → px "java/lang/IndexOutOfBoundsException")))
def wpX6_queuedStreet (x1 : Int32) (x2 : Int32) (q_waiting : Nat → Int32) (q_orders : Nat → Int32) (q_count : Int32) (post : Int32 → Prop) (px : String → Prop) : Prop :=
  wpX2_has x1 q_count (fun r1 => ((¬ r1 = 0 → wpX2_waitingAt x1 x2 q_waiting q_orders q_count (fun r2 => ((0 ≤ r2 → post r2) ∧
  (¬ 0 ≤ r2 → px "java/util/NoSuchElementException")))) ∧
  (r1 = 0 → px "java/lang/IndexOutOfBoundsException")))
def wpX6_orderMinutes (x1 : Int32) (x2 : Int32) (w_reach : Nat → Int32) (w_settled : Nat → Int32) (s_lower : Nat → Int32) (s_higher : Nat → Int32) (s_size : Nat → Int32) (s_count : Int32) (q_place : Nat → Int32) (q_count : Int32) (post : Int32 → (Nat → Int32) → (Nat → Int32) → Prop) (px : String → (Nat → Int32) → (Nat → Int32) → Prop) : Prop :=
  wpX2_has x1 q_count (fun r1 => ((r1 = 0 → px "java/lang/IndexOutOfBoundsException" w_reach w_settled) ∧
  (¬ r1 = 0 → wpX4_has x2 s_count (fun r2 => ((¬ r2 = 0 → wpX5_minutesFor x1 x2 w_reach w_settled s_lower s_higher s_size s_count q_place q_count (fun r3 w_reach_v3 w_settled_v3 => ((r3 < 1000000 → post r3 w_reach_v3 w_settled_v3) ∧
  (¬ r3 < 1000000 → px "java/util/NoSuchElementException" w_reach_v3 w_settled_v3)))) ∧
  (r2 = 0 → px "java/lang/IndexOutOfBoundsException" w_reach w_settled))))))
def wpX6_foretellClearing_L25 (x1 : Int32) (t_time : Int32) (t_store : Int32) (t_rate : Int32) (t_force : Int32) (t_cleared : Int32) (t_ploughed : Int32) (t_failed : Int32) (t_complained : Int32) (s_lower : Nat → Int32) (s_higher : Nat → Int32) (s_kind : Nat → Int32) (s_size : Nat → Int32) (s_snow : Nat → Int32) (s_saltEnd : Nat → Int32) (s_complained : Nat → Int32) (s_clearings : Nat → Int32) (s_count : Int32) (q_place : Nat → Int32) (q_target : Nat → Int32) (q_minutesLeft : Nat → Int32) (q_waiting : Nat → Int32) (q_orders : Nat → Int32) (q_count : Int32) (x2_25 : Int32) (t_storef_25 : Int32) (t_ratef_25 : Int32) (t_forcef_25 : Int32) (s_lowerf_25 : Nat → Int32) (s_higherf_25 : Nat → Int32) (s_kindf_25 : Nat → Int32) (s_sizef_25 : Nat → Int32) (s_saltEndf_25 : Nat → Int32) (s_countf_25 : Int32) (q_countf_25 : Int32) (post : Int32 → (Nat → Int32) → (Nat → Int32) → Int32 → Int32 → Int32 → Int32 → Int32 → Int32 → Int32 → Int32 → (Nat → Int32) → (Nat → Int32) → (Nat → Int32) → (Nat → Int32) → (Nat → Int32) → (Nat → Int32) → (Nat → Int32) → (Nat → Int32) → Int32 → (Nat → Int32) → (Nat → Int32) → (Nat → Int32) → (Nat → Int32) → (Nat → Int32) → Int32 → Prop) : Nat → Int32 → (Nat → Int32) → (Nat → Int32) → Int32 → Int32 → Int32 → Int32 → Int32 → (Nat → Int32) → (Nat → Int32) → (Nat → Int32) → (Nat → Int32) → (Nat → Int32) → (Nat → Int32) → (Nat → Int32) → (Nat → Int32) → Prop
  | 0, _, _, _, _, _, _, _, _, _, _, _, _, _, _, _, _ => False
  | n_25 + 1, x3_25, w_reach_25, w_settled_25, t_timef_25, t_clearedf_25, t_ploughedf_25, t_failedf_25, t_complainedf_25, s_snowf_25, s_complainedf_25, s_clearingsf_25, q_placef_25, q_targetf_25, q_minutesLeftf_25, q_waitingf_25, q_ordersf_25 =>
  ((600 < x3_25 → post (-1) w_reach_25 w_settled_25 t_timef_25 t_storef_25 t_ratef_25 t_forcef_25 t_clearedf_25 t_ploughedf_25 t_failedf_25 t_complainedf_25 s_lowerf_25 s_higherf_25 s_kindf_25 s_sizef_25 s_snowf_25 s_saltEndf_25 s_complainedf_25 s_clearingsf_25 s_countf_25 q_placef_25 q_targetf_25 q_minutesLeftf_25 q_waitingf_25 q_ordersf_25 q_countf_25) ∧
  (¬ 600 < x3_25 → wpX5_passMinutes 1 t_timef_25 t_ratef_25 t_forcef_25 t_clearedf_25 t_ploughedf_25 t_failedf_25 t_complainedf_25 w_reach_25 w_settled_25 s_lowerf_25 s_higherf_25 s_kindf_25 s_sizef_25 s_snowf_25 s_saltEndf_25 s_complainedf_25 s_clearingsf_25 s_countf_25 q_placef_25 q_targetf_25 q_minutesLeftf_25 q_waitingf_25 q_ordersf_25 q_countf_25 (fun r3 t_timef_v3 t_clearedf_v3 t_ploughedf_v3 t_failedf_v3 t_complainedf_v3 w_reach_v3 w_settled_v3 s_snowf_v3 s_complainedf_v3 s_clearingsf_v3 q_placef_v3 q_targetf_v3 q_minutesLeftf_v3 q_waitingf_v3 q_ordersf_v3 => wpX4_timesCleared x1 s_clearingsf_v3 s_countf_25 (fun r4 => ((r4 ≤ x2_25 → wpX6_foretellClearing_L25 x1 t_time t_store t_rate t_force t_cleared t_ploughed t_failed t_complained s_lower s_higher s_kind s_size s_snow s_saltEnd s_complained s_clearings s_count q_place q_target q_minutesLeft q_waiting q_orders q_count x2_25 t_storef_25 t_ratef_25 t_forcef_25 s_lowerf_25 s_higherf_25 s_kindf_25 s_sizef_25 s_saltEndf_25 s_countf_25 q_countf_25 post n_25 (x3_25 + 1) w_reach_v3 w_settled_v3 t_timef_v3 t_clearedf_v3 t_ploughedf_v3 t_failedf_v3 t_complainedf_v3 s_snowf_v3 s_complainedf_v3 s_clearingsf_v3 q_placef_v3 q_targetf_v3 q_minutesLeftf_v3 q_waitingf_v3 q_ordersf_v3) ∧
  (¬ r4 ≤ x2_25 → post x3_25 w_reach_v3 w_settled_v3 t_timef_v3 t_storef_25 t_ratef_25 t_forcef_25 t_clearedf_v3 t_ploughedf_v3 t_failedf_v3 t_complainedf_v3 s_lowerf_25 s_higherf_25 s_kindf_25 s_sizef_25 s_snowf_v3 s_saltEndf_25 s_complainedf_v3 s_clearingsf_v3 s_countf_25 q_placef_v3 q_targetf_v3 q_minutesLeftf_v3 q_waitingf_v3 q_ordersf_v3 q_countf_25))))))
def wpX6_foretellClearing (x1 : Int32) (w_reach : Nat → Int32) (w_settled : Nat → Int32) (t_time : Int32) (t_store : Int32) (t_rate : Int32) (t_force : Int32) (t_cleared : Int32) (t_ploughed : Int32) (t_failed : Int32) (t_complained : Int32) (s_lower : Nat → Int32) (s_higher : Nat → Int32) (s_kind : Nat → Int32) (s_size : Nat → Int32) (s_snow : Nat → Int32) (s_saltEnd : Nat → Int32) (s_complained : Nat → Int32) (s_clearings : Nat → Int32) (s_count : Int32) (q_place : Nat → Int32) (q_target : Nat → Int32) (q_minutesLeft : Nat → Int32) (q_waiting : Nat → Int32) (q_orders : Nat → Int32) (q_count : Int32) (t_timef : Int32) (t_storef : Int32) (t_ratef : Int32) (t_forcef : Int32) (t_clearedf : Int32) (t_ploughedf : Int32) (t_failedf : Int32) (t_complainedf : Int32) (s_lowerf : Nat → Int32) (s_higherf : Nat → Int32) (s_kindf : Nat → Int32) (s_sizef : Nat → Int32) (s_snowf : Nat → Int32) (s_saltEndf : Nat → Int32) (s_complainedf : Nat → Int32) (s_clearingsf : Nat → Int32) (s_countf : Int32) (q_placef : Nat → Int32) (q_targetf : Nat → Int32) (q_minutesLeftf : Nat → Int32) (q_waitingf : Nat → Int32) (q_ordersf : Nat → Int32) (q_countf : Int32) (post : Int32 → (Nat → Int32) → (Nat → Int32) → Int32 → Int32 → Int32 → Int32 → Int32 → Int32 → Int32 → Int32 → (Nat → Int32) → (Nat → Int32) → (Nat → Int32) → (Nat → Int32) → (Nat → Int32) → (Nat → Int32) → (Nat → Int32) → (Nat → Int32) → Int32 → (Nat → Int32) → (Nat → Int32) → (Nat → Int32) → (Nat → Int32) → (Nat → Int32) → Int32 → Prop) : Prop :=
  wpX5_copyFrom t_timef t_storef t_ratef t_forcef t_clearedf t_ploughedf t_failedf t_complainedf s_lowerf s_higherf s_kindf s_sizef s_snowf s_saltEndf s_complainedf s_clearingsf s_countf q_placef q_targetf q_minutesLeftf q_waitingf q_ordersf q_countf t_time t_store t_rate t_force t_cleared t_ploughed t_failed t_complained s_lower s_higher s_kind s_size s_snow s_saltEnd s_complained s_clearings s_count q_place q_target q_minutesLeft q_waiting q_orders q_count (fun t_timef_v1 t_storef_v1 t_ratef_v1 t_forcef_v1 t_clearedf_v1 t_ploughedf_v1 t_failedf_v1 t_complainedf_v1 s_lowerf_v1 s_higherf_v1 s_kindf_v1 s_sizef_v1 s_snowf_v1 s_saltEndf_v1 s_complainedf_v1 s_clearingsf_v1 s_countf_v1 q_placef_v1 q_targetf_v1 q_minutesLeftf_v1 q_waitingf_v1 q_ordersf_v1 q_countf_v1 => wpX4_timesCleared x1 s_clearingsf_v1 s_countf_v1 (fun r2 => (∃ n_25, wpX6_foretellClearing_L25 x1 t_time t_store t_rate t_force t_cleared t_ploughed t_failed t_complained s_lower s_higher s_kind s_size s_snow s_saltEnd s_complained s_clearings s_count q_place q_target q_minutesLeft q_waiting q_orders q_count r2 t_storef_v1 t_ratef_v1 t_forcef_v1 s_lowerf_v1 s_higherf_v1 s_kindf_v1 s_sizef_v1 s_saltEndf_v1 s_countf_v1 q_countf_v1 post n_25 1 w_reach w_settled t_timef_v1 t_clearedf_v1 t_ploughedf_v1 t_failedf_v1 t_complainedf_v1 s_snowf_v1 s_complainedf_v1 s_clearingsf_v1 q_placef_v1 q_targetf_v1 q_minutesLeftf_v1 q_waitingf_v1 q_ordersf_v1)))
def wpX6_minutesUntilCleared (x1 : Int32) (w_reach : Nat → Int32) (w_settled : Nat → Int32) (t_time : Int32) (t_store : Int32) (t_rate : Int32) (t_force : Int32) (t_cleared : Int32) (t_ploughed : Int32) (t_failed : Int32) (t_complained : Int32) (s_lower : Nat → Int32) (s_higher : Nat → Int32) (s_kind : Nat → Int32) (s_size : Nat → Int32) (s_snow : Nat → Int32) (s_saltEnd : Nat → Int32) (s_complained : Nat → Int32) (s_clearings : Nat → Int32) (s_count : Int32) (q_place : Nat → Int32) (q_target : Nat → Int32) (q_minutesLeft : Nat → Int32) (q_waiting : Nat → Int32) (q_orders : Nat → Int32) (q_count : Int32) (t_timef : Int32) (t_storef : Int32) (t_ratef : Int32) (t_forcef : Int32) (t_clearedf : Int32) (t_ploughedf : Int32) (t_failedf : Int32) (t_complainedf : Int32) (s_lowerf : Nat → Int32) (s_higherf : Nat → Int32) (s_kindf : Nat → Int32) (s_sizef : Nat → Int32) (s_snowf : Nat → Int32) (s_saltEndf : Nat → Int32) (s_complainedf : Nat → Int32) (s_clearingsf : Nat → Int32) (s_countf : Int32) (q_placef : Nat → Int32) (q_targetf : Nat → Int32) (q_minutesLeftf : Nat → Int32) (q_waitingf : Nat → Int32) (q_ordersf : Nat → Int32) (q_countf : Int32) (post : Int32 → (Nat → Int32) → (Nat → Int32) → Int32 → Int32 → Int32 → Int32 → Int32 → Int32 → Int32 → Int32 → (Nat → Int32) → (Nat → Int32) → (Nat → Int32) → (Nat → Int32) → (Nat → Int32) → (Nat → Int32) → (Nat → Int32) → (Nat → Int32) → Int32 → (Nat → Int32) → (Nat → Int32) → (Nat → Int32) → (Nat → Int32) → (Nat → Int32) → Int32 → Prop) (px : String → (Nat → Int32) → (Nat → Int32) → Int32 → Int32 → Int32 → Int32 → Int32 → Int32 → Int32 → Int32 → (Nat → Int32) → (Nat → Int32) → (Nat → Int32) → (Nat → Int32) → (Nat → Int32) → (Nat → Int32) → (Nat → Int32) → (Nat → Int32) → Int32 → (Nat → Int32) → (Nat → Int32) → (Nat → Int32) → (Nat → Int32) → (Nat → Int32) → Int32 → Prop) : Prop :=
  wpX4_has x1 s_count (fun r1 => ((¬ r1 = 0 → wpX6_foretellClearing x1 w_reach w_settled t_time t_store t_rate t_force t_cleared t_ploughed t_failed t_complained s_lower s_higher s_kind s_size s_snow s_saltEnd s_complained s_clearings s_count q_place q_target q_minutesLeft q_waiting q_orders q_count t_timef t_storef t_ratef t_forcef t_clearedf t_ploughedf t_failedf t_complainedf s_lowerf s_higherf s_kindf s_sizef s_snowf s_saltEndf s_complainedf s_clearingsf s_countf q_placef q_targetf q_minutesLeftf q_waitingf q_ordersf q_countf (fun r2 w_reach_v2 w_settled_v2 t_timef_v2 t_storef_v2 t_ratef_v2 t_forcef_v2 t_clearedf_v2 t_ploughedf_v2 t_failedf_v2 t_complainedf_v2 s_lowerf_v2 s_higherf_v2 s_kindf_v2 s_sizef_v2 s_snowf_v2 s_saltEndf_v2 s_complainedf_v2 s_clearingsf_v2 s_countf_v2 q_placef_v2 q_targetf_v2 q_minutesLeftf_v2 q_waitingf_v2 q_ordersf_v2 q_countf_v2 => ((0 ≤ r2 → post r2 w_reach_v2 w_settled_v2 t_timef_v2 t_storef_v2 t_ratef_v2 t_forcef_v2 t_clearedf_v2 t_ploughedf_v2 t_failedf_v2 t_complainedf_v2 s_lowerf_v2 s_higherf_v2 s_kindf_v2 s_sizef_v2 s_snowf_v2 s_saltEndf_v2 s_complainedf_v2 s_clearingsf_v2 s_countf_v2 q_placef_v2 q_targetf_v2 q_minutesLeftf_v2 q_waitingf_v2 q_ordersf_v2 q_countf_v2) ∧
  (¬ 0 ≤ r2 → px "java/util/NoSuchElementException" w_reach_v2 w_settled_v2 t_timef_v2 t_storef_v2 t_ratef_v2 t_forcef_v2 t_clearedf_v2 t_ploughedf_v2 t_failedf_v2 t_complainedf_v2 s_lowerf_v2 s_higherf_v2 s_kindf_v2 s_sizef_v2 s_snowf_v2 s_saltEndf_v2 s_complainedf_v2 s_clearingsf_v2 s_countf_v2 q_placef_v2 q_targetf_v2 q_minutesLeftf_v2 q_waitingf_v2 q_ordersf_v2 q_countf_v2)))) ∧
  (r1 = 0 → px "java/lang/IndexOutOfBoundsException" w_reach w_settled t_timef t_storef t_ratef t_forcef t_clearedf t_ploughedf t_failedf t_complainedf s_lowerf s_higherf s_kindf s_sizef s_snowf s_saltEndf s_complainedf s_clearingsf s_countf q_placef q_targetf q_minutesLeftf q_waitingf q_ordersf q_countf)))
def wpX6_depthAfter (x1 : Int32) (x2 : Int32) (w_reach : Nat → Int32) (w_settled : Nat → Int32) (t_time : Int32) (t_store : Int32) (t_rate : Int32) (t_force : Int32) (t_cleared : Int32) (t_ploughed : Int32) (t_failed : Int32) (t_complained : Int32) (s_lower : Nat → Int32) (s_higher : Nat → Int32) (s_kind : Nat → Int32) (s_size : Nat → Int32) (s_snow : Nat → Int32) (s_saltEnd : Nat → Int32) (s_complained : Nat → Int32) (s_clearings : Nat → Int32) (s_count : Int32) (q_place : Nat → Int32) (q_target : Nat → Int32) (q_minutesLeft : Nat → Int32) (q_waiting : Nat → Int32) (q_orders : Nat → Int32) (q_count : Int32) (t_timef : Int32) (t_storef : Int32) (t_ratef : Int32) (t_forcef : Int32) (t_clearedf : Int32) (t_ploughedf : Int32) (t_failedf : Int32) (t_complainedf : Int32) (s_lowerf : Nat → Int32) (s_higherf : Nat → Int32) (s_kindf : Nat → Int32) (s_sizef : Nat → Int32) (s_snowf : Nat → Int32) (s_saltEndf : Nat → Int32) (s_complainedf : Nat → Int32) (s_clearingsf : Nat → Int32) (s_countf : Int32) (q_placef : Nat → Int32) (q_targetf : Nat → Int32) (q_minutesLeftf : Nat → Int32) (q_waitingf : Nat → Int32) (q_ordersf : Nat → Int32) (q_countf : Int32) (post : Int32 → (Nat → Int32) → (Nat → Int32) → Int32 → Int32 → Int32 → Int32 → Int32 → Int32 → Int32 → Int32 → (Nat → Int32) → (Nat → Int32) → (Nat → Int32) → (Nat → Int32) → (Nat → Int32) → (Nat → Int32) → (Nat → Int32) → (Nat → Int32) → Int32 → (Nat → Int32) → (Nat → Int32) → (Nat → Int32) → (Nat → Int32) → (Nat → Int32) → Int32 → Prop) (px : String → (Nat → Int32) → (Nat → Int32) → Int32 → Int32 → Int32 → Int32 → Int32 → Int32 → Int32 → Int32 → (Nat → Int32) → (Nat → Int32) → (Nat → Int32) → (Nat → Int32) → (Nat → Int32) → (Nat → Int32) → (Nat → Int32) → (Nat → Int32) → Int32 → (Nat → Int32) → (Nat → Int32) → (Nat → Int32) → (Nat → Int32) → (Nat → Int32) → Int32 → Prop) : Prop :=
  wpX4_has x1 s_count (fun r1 => ((¬ r1 = 0 → ((x2 < 0 → px "java/lang/IllegalArgumentException" w_reach w_settled t_timef t_storef t_ratef t_forcef t_clearedf t_ploughedf t_failedf t_complainedf s_lowerf s_higherf s_kindf s_sizef s_snowf s_saltEndf s_complainedf s_clearingsf s_countf q_placef q_targetf q_minutesLeftf q_waitingf q_ordersf q_countf) ∧
  (¬ x2 < 0 → ((x2 ≤ 600 → ((¬ x2 = 0 → wpX5_copyFrom t_timef t_storef t_ratef t_forcef t_clearedf t_ploughedf t_failedf t_complainedf s_lowerf s_higherf s_kindf s_sizef s_snowf s_saltEndf s_complainedf s_clearingsf s_countf q_placef q_targetf q_minutesLeftf q_waitingf q_ordersf q_countf t_time t_store t_rate t_force t_cleared t_ploughed t_failed t_complained s_lower s_higher s_kind s_size s_snow s_saltEnd s_complained s_clearings s_count q_place q_target q_minutesLeft q_waiting q_orders q_count (fun t_timef_v2 t_storef_v2 t_ratef_v2 t_forcef_v2 t_clearedf_v2 t_ploughedf_v2 t_failedf_v2 t_complainedf_v2 s_lowerf_v2 s_higherf_v2 s_kindf_v2 s_sizef_v2 s_snowf_v2 s_saltEndf_v2 s_complainedf_v2 s_clearingsf_v2 s_countf_v2 q_placef_v2 q_targetf_v2 q_minutesLeftf_v2 q_waitingf_v2 q_ordersf_v2 q_countf_v2 => wpX5_passMinutes x2 t_timef_v2 t_ratef_v2 t_forcef_v2 t_clearedf_v2 t_ploughedf_v2 t_failedf_v2 t_complainedf_v2 w_reach w_settled s_lowerf_v2 s_higherf_v2 s_kindf_v2 s_sizef_v2 s_snowf_v2 s_saltEndf_v2 s_complainedf_v2 s_clearingsf_v2 s_countf_v2 q_placef_v2 q_targetf_v2 q_minutesLeftf_v2 q_waitingf_v2 q_ordersf_v2 q_countf_v2 (fun r3 t_timef_v3 t_clearedf_v3 t_ploughedf_v3 t_failedf_v3 t_complainedf_v3 w_reach_v3 w_settled_v3 s_snowf_v3 s_complainedf_v3 s_clearingsf_v3 q_placef_v3 q_targetf_v3 q_minutesLeftf_v3 q_waitingf_v3 q_ordersf_v3 => (vp_in x1 12 ∧
  post (s_snowf_v3 x1.toNatClampNeg) w_reach_v3 w_settled_v3 t_timef_v3 t_storef_v2 t_ratef_v2 t_forcef_v2 t_clearedf_v3 t_ploughedf_v3 t_failedf_v3 t_complainedf_v3 s_lowerf_v2 s_higherf_v2 s_kindf_v2 s_sizef_v2 s_snowf_v3 s_saltEndf_v2 s_complainedf_v3 s_clearingsf_v3 s_countf_v2 q_placef_v3 q_targetf_v3 q_minutesLeftf_v3 q_waitingf_v3 q_ordersf_v3 q_countf_v2)))) ∧
  (x2 = 0 → (vp_in x1 12 ∧
  post (s_snow x1.toNatClampNeg) w_reach w_settled t_timef t_storef t_ratef t_forcef t_clearedf t_ploughedf t_failedf t_complainedf s_lowerf s_higherf s_kindf s_sizef s_snowf s_saltEndf s_complainedf s_clearingsf s_countf q_placef q_targetf q_minutesLeftf q_waitingf q_ordersf q_countf)))) ∧
  (¬ x2 ≤ 600 → px "java/lang/IllegalArgumentException" w_reach w_settled t_timef t_storef t_ratef t_forcef t_clearedf t_ploughedf t_failedf t_complainedf s_lowerf s_higherf s_kindf s_sizef s_snowf s_saltEndf s_complainedf s_clearingsf s_countf q_placef q_targetf q_minutesLeftf q_waitingf q_ordersf q_countf))))) ∧
  (r1 = 0 → px "java/lang/IndexOutOfBoundsException" w_reach w_settled t_timef t_storef t_ratef t_forcef t_clearedf t_ploughedf t_failedf t_complainedf s_lowerf s_higherf s_kindf s_sizef s_snowf s_saltEndf s_complainedf s_clearingsf s_countf q_placef q_targetf q_minutesLeftf q_waitingf q_ordersf q_countf)))
def wpX6_time (t_time : Int32) (post : Int32 → Prop) : Prop :=
  post t_time
def wpX6_saltStore (t_store : Int32) (post : Int32 → Prop) : Prop :=
  post t_store
def wpX6_snowfall (t_rate : Int32) (post : Int32 → Prop) : Prop :=
  post t_rate
def wpX6_wind (t_force : Int32) (post : Int32 → Prop) : Prop :=
  post t_force
def wpX6_clearedTotal (t_cleared : Int32) (post : Int32 → Prop) : Prop :=
  post t_cleared
def wpX6_ploughedTotal (t_ploughed : Int32) (post : Int32 → Prop) : Prop :=
  post t_ploughed
def wpX6_failedOrders (t_failed : Int32) (post : Int32 → Prop) : Prop :=
  post t_failed
def wpX6_complaintTotal (t_complained : Int32) (post : Int32 → Prop) : Prop :=
  post t_complained
def wpX6_meanDepth (s_snow : Nat → Int32) (s_count : Int32) (post : UInt64 → Prop) (px : String → Prop) : Prop :=
  ((0 < s_count → wpX4_snowSum s_snow s_count (fun r1 => (vf_n64 (FP.ddiv (FP.i2d r1) (FP.i2d s_count)) ∧
  post (FP.ddiv (FP.i2d r1) (FP.i2d s_count))))) ∧
  (¬ 0 < s_count → px "java/lang/ArithmeticException"))
def wpX6_saltedShare (t_time : Int32) (s_saltEnd : Nat → Int32) (s_count : Int32) (post : UInt32 → Prop) (px : String → Prop) : Prop :=
  ((0 < s_count → wpX4_saltedCount t_time s_saltEnd s_count (fun r1 => (vf_n32 (FP.fdiv (FP.i2f r1) (FP.i2f s_count)) ∧
  post (FP.fdiv (FP.i2f r1) (FP.i2f s_count))))) ∧
  (¬ 0 < s_count → px "java/lang/ArithmeticException"))
def wpX6_distancesAgree_L39 (w_table_16 : Nat → Int32) (s_lower : Nat → Int32) (s_higher : Nat → Int32) (s_size : Nat → Int32) (s_count : Int32) (x1_39 : Int32) (w_reach_39 : Nat → Int32) (w_settled_39 : Nat → Int32) (k16 : Int32 → (Nat → Int32) → (Nat → Int32) → Prop) (post : Int32 → (Nat → Int32) → (Nat → Int32) → (Nat → Int32) → Prop) : Nat → Int32 → Prop
  | 0, _ => False
  | n_39 + 1, x2_39 =>
  ((8 ≤ x2_39 → k16 (x1_39 + 1) w_reach_39 w_settled_39) ∧
  (¬ 8 ≤ x2_39 → wpX1_reachOf x2_39 w_reach_39 (fun r3 => wpX1_between x1_39 x2_39 w_table_16 (fun r4 => ((r3 = r4 → wpX6_distancesAgree_L39 w_table_16 s_lower s_higher s_size s_count x1_39 w_reach_39 w_settled_39 k16 post n_39 (x2_39 + 1)) ∧
  (¬ r3 = r4 → post 0 w_reach_39 w_settled_39 w_table_16))))))
def wpX6_distancesAgree_L16 (s_lower : Nat → Int32) (s_higher : Nat → Int32) (s_size : Nat → Int32) (s_count : Int32) (w_table_16 : Nat → Int32) (post : Int32 → (Nat → Int32) → (Nat → Int32) → (Nat → Int32) → Prop) : Nat → Int32 → (Nat → Int32) → (Nat → Int32) → Prop
  | 0, _, _, _ => False
  | n_16 + 1, x1_16, w_reach_16, w_settled_16 =>
  ((8 ≤ x1_16 → post 1 w_reach_16 w_settled_16 w_table_16) ∧
  (¬ 8 ≤ x1_16 → wpX1_measureFrom x1_16 w_reach_16 w_settled_16 s_lower s_higher s_size s_count (fun w_reach_v2 w_settled_v2 => (∃ n_39, wpX6_distancesAgree_L39 w_table_16 s_lower s_higher s_size s_count x1_16 w_reach_v2 w_settled_v2 (fun v1 v2 v3 => wpX6_distancesAgree_L16 s_lower s_higher s_size s_count w_table_16 post n_16 v1 v2 v3) post n_39 0))))
def wpX6_distancesAgree (w_reach : Nat → Int32) (w_settled : Nat → Int32) (w_table : Nat → Int32) (s_lower : Nat → Int32) (s_higher : Nat → Int32) (s_size : Nat → Int32) (s_count : Int32) (post : Int32 → (Nat → Int32) → (Nat → Int32) → (Nat → Int32) → Prop) : Prop :=
  wpX1_improveAll w_table s_lower s_higher s_size s_count (fun w_table_v1 => (∃ n_16, wpX6_distancesAgree_L16 s_lower s_higher s_size s_count w_table_v1 post n_16 0 w_reach w_settled))
def wpX6_isConsistent (w_reach : Nat → Int32) (w_settled : Nat → Int32) (w_table : Nat → Int32) (t_complained : Int32) (s_lower : Nat → Int32) (s_higher : Nat → Int32) (s_size : Nat → Int32) (s_snow : Nat → Int32) (s_complained : Nat → Int32) (s_count : Int32) (post : Int32 → (Nat → Int32) → (Nat → Int32) → (Nat → Int32) → Prop) : Prop :=
  wpX6_distancesAgree w_reach w_settled w_table s_lower s_higher s_size s_count (fun r1 w_reach_v1 w_settled_v1 w_table_v1 => ((r1 = 0 → post 0 w_reach_v1 w_settled_v1 w_table_v1) ∧
  (¬ r1 = 0 → wpX4_complaintSum s_complained s_count (fun r2 => ((¬ r2 = t_complained → post 0 w_reach_v1 w_settled_v1 w_table_v1) ∧
  (r2 = t_complained → wpX4_depthsAllowed s_snow s_count (fun r3 => ((r3 = 0 → post 0 w_reach_v1 w_settled_v1 w_table_v1) ∧
  (¬ r3 = 0 → post 1 w_reach_v1 w_settled_v1 w_table_v1)))))))))
def wpX6_errorPosition (d_wrongPosition : Int32) (post : Int32 → Prop) (px : String → Prop) : Prop :=
  ((0 ≤ d_wrongPosition → post d_wrongPosition) ∧
  (¬ 0 ≤ d_wrongPosition → px "java/util/NoSuchElementException"))
def wpX6_failedCommand (d_refusedCommand : Int32) (post : Int32 → Prop) (px : String → Prop) : Prop :=
  ((0 ≤ d_refusedCommand → post d_refusedCommand) ∧
  (¬ 0 ≤ d_refusedCommand → px "java/util/NoSuchElementException"))
def wpX6_save (d_saved : Int32) (t_time : Int32) (t_store : Int32) (t_rate : Int32) (t_force : Int32) (t_cleared : Int32) (t_ploughed : Int32) (t_failed : Int32) (t_complained : Int32) (s_lower : Nat → Int32) (s_higher : Nat → Int32) (s_kind : Nat → Int32) (s_size : Nat → Int32) (s_snow : Nat → Int32) (s_saltEnd : Nat → Int32) (s_complained : Nat → Int32) (s_clearings : Nat → Int32) (s_count : Int32) (q_place : Nat → Int32) (q_target : Nat → Int32) (q_minutesLeft : Nat → Int32) (q_waiting : Nat → Int32) (q_orders : Nat → Int32) (q_count : Int32) (t_timep : Int32) (t_storep : Int32) (t_ratep : Int32) (t_forcep : Int32) (t_clearedp : Int32) (t_ploughedp : Int32) (t_failedp : Int32) (t_complainedp : Int32) (s_lowerp : Nat → Int32) (s_higherp : Nat → Int32) (s_kindp : Nat → Int32) (s_sizep : Nat → Int32) (s_snowp : Nat → Int32) (s_saltEndp : Nat → Int32) (s_complainedp : Nat → Int32) (s_clearingsp : Nat → Int32) (s_countp : Int32) (q_placep : Nat → Int32) (q_targetp : Nat → Int32) (q_minutesLeftp : Nat → Int32) (q_waitingp : Nat → Int32) (q_ordersp : Nat → Int32) (q_countp : Int32) (post : Int32 → Int32 → Int32 → Int32 → Int32 → Int32 → Int32 → Int32 → Int32 → Int32 → (Nat → Int32) → (Nat → Int32) → (Nat → Int32) → (Nat → Int32) → (Nat → Int32) → (Nat → Int32) → (Nat → Int32) → (Nat → Int32) → Int32 → (Nat → Int32) → (Nat → Int32) → (Nat → Int32) → (Nat → Int32) → (Nat → Int32) → Int32 → Prop) : Prop :=
  wpX5_copyFrom t_timep t_storep t_ratep t_forcep t_clearedp t_ploughedp t_failedp t_complainedp s_lowerp s_higherp s_kindp s_sizep s_snowp s_saltEndp s_complainedp s_clearingsp s_countp q_placep q_targetp q_minutesLeftp q_waitingp q_ordersp q_countp t_time t_store t_rate t_force t_cleared t_ploughed t_failed t_complained s_lower s_higher s_kind s_size s_snow s_saltEnd s_complained s_clearings s_count q_place q_target q_minutesLeft q_waiting q_orders q_count (fun t_timep_v1 t_storep_v1 t_ratep_v1 t_forcep_v1 t_clearedp_v1 t_ploughedp_v1 t_failedp_v1 t_complainedp_v1 s_lowerp_v1 s_higherp_v1 s_kindp_v1 s_sizep_v1 s_snowp_v1 s_saltEndp_v1 s_complainedp_v1 s_clearingsp_v1 s_countp_v1 q_placep_v1 q_targetp_v1 q_minutesLeftp_v1 q_waitingp_v1 q_ordersp_v1 q_countp_v1 => post s_count 1 t_timep_v1 t_storep_v1 t_ratep_v1 t_forcep_v1 t_clearedp_v1 t_ploughedp_v1 t_failedp_v1 t_complainedp_v1 s_lowerp_v1 s_higherp_v1 s_kindp_v1 s_sizep_v1 s_snowp_v1 s_saltEndp_v1 s_complainedp_v1 s_clearingsp_v1 s_countp_v1 q_placep_v1 q_targetp_v1 q_minutesLeftp_v1 q_waitingp_v1 q_ordersp_v1 q_countp_v1)
def wpX7_meanDepth_L44 (m_s : Nat → Int32) (post : UInt64 → Int32 → Prop) (z1_44 : Int32) (x1_44 : Int32) (m_thrown_44 : Int32) : Prop :=
  wpX7_isThrown z1_44 1 m_thrown_44 (fun r3 m_thrown_v3 => ((r3 = 0 → (vp_in 1 130 ∧
  (vf_n64 (FP.ddiv (FP.i2d x1_44) (FP.i2d (m_s (1 : Int32).toNatClampNeg))) ∧
  post (FP.ddiv (FP.i2d x1_44) (FP.i2d (m_s (1 : Int32).toNatClampNeg))) m_thrown_v3))) ∧
  (¬ r3 = 0 → post FP.dconst0 m_thrown_v3)))
def wpX7_meanDepth_L4 (m_s : Nat → Int32) (m_thrown_4 : Int32) (post : UInt64 → Int32 → Prop) : Nat → Int32 → Int32 → Prop
  | 0, _, _ => False
  | n_4 + 1, x1_4, x2_4 =>
  (vp_in 1 130 ∧
  (((m_s (1 : Int32).toNatClampNeg) ≤ x2_4 → (vp_in 1 130 ∧
  ((¬ (m_s (1 : Int32).toNatClampNeg) = 0 → wpX7_meanDepth_L44 m_s post 0 x1_4 m_thrown_4) ∧
  ((m_s (1 : Int32).toNatClampNeg) = 0 → wpX7_meanDepth_L44 m_s post 1 x1_4 m_thrown_4)))) ∧
  (¬ (m_s (1 : Int32).toNatClampNeg) ≤ x2_4 → wpX7_of x2_4 4 m_s (fun r6 => wpX7_meanDepth_L4 m_s m_thrown_4 post n_4 (x1_4 + r6) (x2_4 + 1)))))
def wpX7_meanDepth (m_thrown : Int32) (m_s : Nat → Int32) (post : UInt64 → Int32 → Prop) : Prop :=
  (∃ n_4, wpX7_meanDepth_L4 m_s m_thrown post n_4 0 0)
def wpX7_saltedShare_L51 (m_s : Nat → Int32) (post : UInt32 → Int32 → Prop) (z1_51 : Int32) (x1_51 : Int32) (m_thrown_51 : Int32) : Prop :=
  wpX7_isThrown z1_51 1 m_thrown_51 (fun r3 m_thrown_v3 => ((r3 = 0 → (vp_in 1 130 ∧
  (vf_n32 (FP.fdiv (FP.i2f x1_51) (FP.i2f (m_s (1 : Int32).toNatClampNeg))) ∧
  post (FP.fdiv (FP.i2f x1_51) (FP.i2f (m_s (1 : Int32).toNatClampNeg))) m_thrown_v3))) ∧
  (¬ r3 = 0 → post FP.fconst0 m_thrown_v3)))
def wpX7_saltedShare_L4 (m_s : Nat → Int32) (m_thrown_4 : Int32) (post : UInt32 → Int32 → Prop) : Nat → Int32 → Int32 → Prop
  | 0, _, _ => False
  | n_4 + 1, x1_4, x2_4 =>
  (vp_in 1 130 ∧
  (((m_s (1 : Int32).toNatClampNeg) ≤ x2_4 → (vp_in 1 130 ∧
  ((¬ (m_s (1 : Int32).toNatClampNeg) = 0 → wpX7_saltedShare_L51 m_s post 0 x1_4 m_thrown_4) ∧
  ((m_s (1 : Int32).toNatClampNeg) = 0 → wpX7_saltedShare_L51 m_s post 1 x1_4 m_thrown_4)))) ∧
  (¬ (m_s (1 : Int32).toNatClampNeg) ≤ x2_4 → wpX7_salted x2_4 m_s (fun r6 => ((r6 = 0 → wpX7_saltedShare_L4 m_s m_thrown_4 post n_4 (x1_4 + 0) (x2_4 + 1)) ∧
  (¬ r6 = 0 → wpX7_saltedShare_L4 m_s m_thrown_4 post n_4 (x1_4 + 1) (x2_4 + 1)))))))
def wpX7_saltedShare (m_thrown : Int32) (m_s : Nat → Int32) (post : UInt32 → Int32 → Prop) : Prop :=
  (∃ n_4, wpX7_saltedShare_L4 m_s m_thrown post n_4 0 0)
def wpJ5_ensureCapacityInternal_d00df (x1 : Int32) (b_cap : Nat) (post : Prop) : Prop :=
  (((x1 - ((nI b_cap) >>> ((0 : Int32) &&& 31))) ≤ 0 → post) ∧
  (¬ (x1 - ((nI b_cap) >>> ((0 : Int32) &&& 31))) ≤ 0 → False))
def wpJ5_isLatin1_aae02 (post : Int32 → Prop) : Prop :=
  post 1
def wpJ1_canEncode_fc78d (x0 : Int32) (post : Int32 → Prop) : Prop :=
  ((255 < x0 → post 0) ∧
  (¬ 255 < x0 → post 1))
def wpJ5_append_3fe6f (x1 : Int32) (b_count : Int32) (b_cap : Nat) (b_bytes : Nat → Int32) (post : Int32 → (Nat → Int32) → Prop) : Prop :=
  wpJ5_ensureCapacityInternal_d00df (b_count + 1) b_cap (wpJ5_isLatin1_aae02 (fun r2 => ((r2 = 0 → False) ∧
  (¬ r2 = 0 → wpJ1_canEncode_fc78d x1 (fun r3 => ((r3 = 0 → False) ∧
  (¬ r3 = 0 → (vp_in b_count b_cap ∧
  post (b_count + 1) (upd b_bytes b_count.toNatClampNeg (vp_nar .byte (x1.toInt8.toInt32)))))))))))
def wpJ4_append_cf468 (x1 : Int32) (b_count : Int32) (b_cap : Nat) (b_bytes : Nat → Int32) (post : Int32 → (Nat → Int32) → Prop) : Prop :=
  wpJ5_append_3fe6f x1 b_count b_cap b_bytes (fun b_count_v1 b_bytes_v1 => post b_count_v1 b_bytes_v1)
def wpJ6_stringSize_0f7a4_L16 (x0_16 : Int32) (x1_16 : Int32) (post : Int32 → Prop) : Nat → Int32 → Int32 → Prop
  | 0, _, _ => False
  | n_16 + 1, x2_16, x3_16 =>
  ((10 ≤ x3_16 → post (10 + x1_16)) ∧
  (¬ 10 ≤ x3_16 → ((x0_16 ≤ x2_16 → wpJ6_stringSize_0f7a4_L16 x0_16 x1_16 post n_16 (10 * x2_16) (x3_16 + 1)) ∧
  (¬ x0_16 ≤ x2_16 → post (x3_16 + x1_16)))))
def wpJ6_stringSize_0f7a4 (x0 : Int32) (post : Int32 → Prop) : Prop :=
  ((x0 < 0 → (∃ n_16, wpJ6_stringSize_0f7a4_L16 x0 1 post n_16 (-10) 1)) ∧
  (¬ x0 < 0 → (∃ n_16, wpJ6_stringSize_0f7a4_L16 (-x0) 0 post n_16 (-10) 1)))
def wpJ6_getChars_ba4f3_L104 (b_cap : Nat) (post : Int32 → (Nat → Int32) → Prop) (x5_104 : Int32) (x6_104 : Int32) (b_bytes_104 : Nat → Int32) : Prop :=
  ((x6_104 = 0 → post x5_104 b_bytes_104) ∧
  (¬ x6_104 = 0 → (vp_in (x5_104 + (-1)) b_cap ∧
  post (x5_104 + (-1)) (upd b_bytes_104 (x5_104 + (-1)).toNatClampNeg (vp_nar .byte 45)))))
def wpJ6_getChars_ba4f3_L22 (b_cap : Nat) (x6_22 : Int32) (post : Int32 → (Nat → Int32) → Prop) : Nat → Int32 → Int32 → (Nat → Int32) → Prop
  | 0, _, _, _ => False
  | n_22 + 1, x0_22, x5_22, b_bytes_22 =>
  (((-100) < x0_22 → (vp_in (-x0_22) 100 ∧
  (vp_in (x5_22 + (-1)) b_cap ∧
  (((-9) ≤ x0_22 → wpJ6_getChars_ba4f3_L104 b_cap post (x5_22 + (-1)) x6_22 (upd b_bytes_22 (x5_22 + (-1)).toNatClampNeg (vp_nar .byte (gOnes (-x0_22).toNatClampNeg)))) ∧
  (¬ (-9) ≤ x0_22 → (vp_in (-x0_22) 100 ∧
  (vp_in ((x5_22 + (-1)) + (-1)) b_cap ∧
  wpJ6_getChars_ba4f3_L104 b_cap post ((x5_22 + (-1)) + (-1)) x6_22 (upd (upd b_bytes_22 (x5_22 + (-1)).toNatClampNeg (vp_nar .byte (gOnes (-x0_22).toNatClampNeg))) ((x5_22 + (-1)) + (-1)).toNatClampNeg (vp_nar .byte (gTens (-x0_22).toNatClampNeg)))))))))) ∧
  (¬ (-100) < x0_22 → (vp_in (((x0_22 / 100) * 100) - x0_22) 100 ∧
  (vp_in (x5_22 + (-1)) b_cap ∧
  (vp_in (((x0_22 / 100) * 100) - x0_22) 100 ∧
  (vp_in ((x5_22 + (-1)) + (-1)) b_cap ∧
  wpJ6_getChars_ba4f3_L22 b_cap x6_22 post n_22 (x0_22 / 100) ((x5_22 + (-1)) + (-1)) (upd (upd b_bytes_22 (x5_22 + (-1)).toNatClampNeg (vp_nar .byte (gOnes (((x0_22 / 100) * 100) - x0_22).toNatClampNeg))) ((x5_22 + (-1)) + (-1)).toNatClampNeg (vp_nar .byte (gTens (((x0_22 / 100) * 100) - x0_22).toNatClampNeg)))))))))
def wpJ6_getChars_ba4f3 (x0 : Int32) (x1 : Int32) (b_cap : Nat) (b_bytes : Nat → Int32) (post : Int32 → (Nat → Int32) → Prop) : Prop :=
  ((0 ≤ x0 → ((¬ (0 : Int32) = 0 → (∃ n_22, wpJ6_getChars_ba4f3_L22 b_cap 0 post n_22 x0 x1 b_bytes)) ∧
  ((0 : Int32) = 0 → (∃ n_22, wpJ6_getChars_ba4f3_L22 b_cap 0 post n_22 (-x0) x1 b_bytes)))) ∧
  (¬ 0 ≤ x0 → ((¬ (1 : Int32) = 0 → (∃ n_22, wpJ6_getChars_ba4f3_L22 b_cap 1 post n_22 x0 x1 b_bytes)) ∧
  ((1 : Int32) = 0 → (∃ n_22, wpJ6_getChars_ba4f3_L22 b_cap 1 post n_22 (-x0) x1 b_bytes)))))
def wpJ5_append_c97b9 (x1 : Int32) (b_count : Int32) (b_cap : Nat) (b_bytes : Nat → Int32) (post : Int32 → (Nat → Int32) → Prop) : Prop :=
  wpJ6_stringSize_0f7a4 x1 (fun r1 => wpJ5_ensureCapacityInternal_d00df (b_count + r1) b_cap (wpJ5_isLatin1_aae02 (fun r3 => ((r3 = 0 → False) ∧
  (¬ r3 = 0 → wpJ6_getChars_ba4f3 x1 (b_count + r1) b_cap b_bytes (fun r4 b_bytes_v4 => post (b_count + r1) b_bytes_v4))))))
def wpJ4_append_bf812 (x1 : Int32) (b_count : Int32) (b_cap : Nat) (b_bytes : Nat → Int32) (post : Int32 → (Nat → Int32) → Prop) : Prop :=
  wpJ5_append_c97b9 x1 b_count b_cap b_bytes (fun b_count_v1 b_bytes_v1 => post b_count_v1 b_bytes_v1)
def wpJ0_coder_7d493 (post : Int32 → Prop) : Prop :=
  post 0
def wpJ0_length_8abf5 (su_len : Nat) (post : Int32 → Prop) : Prop :=
  wpJ0_coder_7d493 (fun r1 => post ((nI su_len) >>> (r1 &&& 31)))
def wpJ5_inflateIfNeededFor_a7421 (post : Prop) : Prop :=
  wpJ0_coder_7d493 (fun r1 => ((0 = r1 → post) ∧
  (¬ 0 = r1 → False)))
def wpJ0_getBytes_840e7 (x2 : Int32) (x3 : Int32) (su_len : Nat) (su_txt : Nat → Int32) (b_cap : Nat) (b_bytes : Nat → Int32) (post : (Nat → Int32) → Prop) : Prop :=
  wpJ0_coder_7d493 (fun r1 => ((¬ r1 = x3 → False) ∧
  (r1 = x3 → (¬ (x2 <<< (x3 &&& 31)) < 0 ∧
  (¬ (nI su_len) < 0 ∧
  (0 + (nI su_len).toNatClampNeg ≤ su_len ∧
  ((x2 <<< (x3 &&& 31)).toNatClampNeg + (nI su_len).toNatClampNeg ≤ b_cap ∧
  ((∀ i, i < (nI su_len).toNatClampNeg → fits .byte (.int (su_txt (0 + i))) = true) ∧
  post (va_cpy su_txt b_bytes 0 (x2 <<< (x3 &&& 31)).toNatClampNeg (nI su_len).toNatClampNeg)))))))))
def wpJ5_putStringAt_47b60 (x1 : Int32) (su_len : Nat) (su_txt : Nat → Int32) (b_cap : Nat) (b_bytes : Nat → Int32) (post : (Nat → Int32) → Prop) : Prop :=
  wpJ5_inflateIfNeededFor_a7421 (wpJ0_getBytes_840e7 x1 0 su_len su_txt b_cap b_bytes (fun b_bytes_v2 => post b_bytes_v2))
def wpJ5_append_cf1ce (su_len : Nat) (su_txt : Nat → Int32) (b_count : Int32) (b_cap : Nat) (b_bytes : Nat → Int32) (post : Int32 → (Nat → Int32) → Prop) : Prop :=
  wpJ0_length_8abf5 su_len (fun r1 => wpJ5_ensureCapacityInternal_d00df (b_count + r1) b_cap (wpJ5_putStringAt_47b60 b_count su_len su_txt b_cap b_bytes (fun b_bytes_v3 => post (b_count + r1) b_bytes_v3)))
def wpJ4_append_15ec4 (su_len : Nat) (su_txt : Nat → Int32) (b_count : Int32) (b_cap : Nat) (b_bytes : Nat → Int32) (post : Int32 → (Nat → Int32) → Prop) : Prop :=
  wpJ5_append_cf1ce su_len su_txt b_count b_cap b_bytes (fun b_count_v1 b_bytes_v1 => post b_count_v1 b_bytes_v1)
def wpJ3_checkIndex_8e157 (x0 : Int32) (x1 : Int32) (post : Int32 → Prop) : Prop :=
  ((x0 < 0 → False) ∧
  (¬ x0 < 0 → ((x0 < x1 → post x0) ∧
  (¬ x0 < x1 → False))))
def wpJ0_checkIndex_df160 (x0 : Int32) (x1 : Int32) (post : Prop) : Prop :=
  wpJ3_checkIndex_8e157 x0 x1 (fun r2 => post)
def wpJ5_charAt_5068e (x1 : Int32) (b_count : Int32) (b_cap : Nat) (b_bytes : Nat → Int32) (post : Int32 → Prop) : Prop :=
  wpJ0_checkIndex_df160 x1 (if ((nI b_cap) >>> ((0 : Int32) &&& 31)) < b_count then ((nI b_cap) >>> ((0 : Int32) &&& 31)) else b_count) ((vp_in x1 b_cap ∧
  (narrow .char (.int ((((b_bytes x1.toNatClampNeg) &&& 255).toUInt32 % 65536).toInt32)) = .int ((((b_bytes x1.toNatClampNeg) &&& 255).toUInt32 % 65536).toInt32) ∧
  post ((((b_bytes x1.toNatClampNeg) &&& 255).toUInt32 % 65536).toInt32))))
def wpJ4_charAt_5068e (x1 : Int32) (b_count : Int32) (b_cap : Nat) (b_bytes : Nat → Int32) (post : Int32 → Prop) : Prop :=
  wpJ5_charAt_5068e x1 b_count b_cap b_bytes (fun r1 => (narrow .char (.int r1) = .int r1 ∧
  post r1))
def wpJ5_length_8abf5 (b_count : Int32) (post : Int32 → Prop) : Prop :=
  post b_count
def wpJ4_length_8abf5 (b_count : Int32) (post : Int32 → Prop) : Prop :=
  wpJ5_length_8abf5 b_count (fun r1 => post r1)
def wpJ5_setLength_d00df (x1 : Int32) (b_ml : Int32) (b_count : Int32) (b_cap : Nat) (post : Int32 → Int32 → Prop) : Prop :=
  ((0 ≤ x1 → wpJ5_ensureCapacityInternal_d00df x1 b_cap (((x1 ≤ b_count → ((b_count ≤ x1 → post b_ml x1) ∧
  (¬ b_count ≤ x1 → post 1 x1))) ∧
  (¬ x1 ≤ b_count → False)))) ∧
  (¬ 0 ≤ x1 → False))
def wpJ4_setLength_d00df (x1 : Int32) (b_ml : Int32) (b_count : Int32) (b_cap : Nat) (post : Int32 → Int32 → Prop) : Prop :=
  wpJ5_setLength_d00df x1 b_ml b_count b_cap (fun b_ml_v1 b_count_v1 => post b_ml_v1 b_count_v1)
def wpJ0_isLatin1_aae02 (post : Int32 → Prop) : Prop :=
  post 1
def wpJ1_charAt_3b067 (x1 : Int32) (su_len : Nat) (su_txt : Nat → Int32) (post : Int32 → Prop) : Prop :=
  wpJ0_checkIndex_df160 x1 (nI su_len) ((vp_in x1 su_len ∧
  (narrow .char (.int ((((su_txt x1.toNatClampNeg) &&& 255).toUInt32 % 65536).toInt32)) = .int ((((su_txt x1.toNatClampNeg) &&& 255).toUInt32 % 65536).toInt32) ∧
  post ((((su_txt x1.toNatClampNeg) &&& 255).toUInt32 % 65536).toInt32))))
def wpJ0_charAt_5068e (x1 : Int32) (su_len : Nat) (su_txt : Nat → Int32) (post : Int32 → Prop) : Prop :=
  wpJ0_isLatin1_aae02 (fun r1 => ((r1 = 0 → False) ∧
  (¬ r1 = 0 → wpJ1_charAt_3b067 x1 su_len su_txt (fun r2 => (narrow .char (.int r2) = .int r2 ∧
  post r2)))))
def wpX3_formOf (x0 : Int32) (post : Nat → Prop) : Prop :=
  ((x0 = 0 → post 0) ∧
  (¬ x0 = 0 → ((x0 = 1 → post 1) ∧
  (¬ x0 = 1 → ((x0 = 2 → post 2) ∧
  (¬ x0 = 2 → ((x0 = 3 → post 3) ∧
  (¬ x0 = 3 → ((x0 = 4 → post 4) ∧
  (¬ x0 = 4 → ((x0 = 5 → post 5) ∧
  (¬ x0 = 5 → ((x0 = 6 → post 6) ∧
  (¬ x0 = 6 → ((x0 = 7 → post 7) ∧
  (¬ x0 = 7 → post 8))))))))))))))))
def wpX3_signAt (x1 : Int32) (b_countt : Int32) (b_capt : Nat) (b_bytest : Nat → Int32) (post : Int32 → Prop) : Prop :=
  ((x1 < 0 → post 0) ∧
  (¬ x1 < 0 → wpJ4_length_8abf5 b_countt (fun r1 => ((r1 ≤ x1 → post 0) ∧
  (¬ r1 ≤ x1 → wpJ4_charAt_5068e x1 b_countt b_capt b_bytest (fun r2 => (narrow .char (.int r2) = .int r2 ∧
  post r2)))))))
def wpX3_isDigit (x0 : Int32) (post : Int32 → Prop) : Prop :=
  ((x0 < 48 → post 0) ∧
  (¬ x0 < 48 → ((57 < x0 → post 0) ∧
  (¬ 57 < x0 → post 1))))
def wpX3_fits (x0 : Int32) (x1 : Int32) (post : Int32 → Prop) : Prop :=
  ((x0 = 35 → wpX3_isDigit x1 (fun r1 => (narrow .boolean (.int r1) = .int r1 ∧
  post r1))) ∧
  (¬ x0 = 35 → ((¬ x0 = 37 → ((¬ x0 = 64 → ((¬ x1 = x0 → post 0) ∧
  (x1 = x0 → post 1))) ∧
  (x0 = 64 → ((x1 < 97 → post 0) ∧
  (¬ x1 < 97 → ((99 < x1 → post 0) ∧
  (¬ 99 < x1 → post 1))))))) ∧
  (x0 = 37 → wpX3_isDigit x1 (fun r3 => (narrow .boolean (.int r3) = .int r3 ∧
  post r3))))))
def wpX3_fittingSigns_L2 (su_len : Nat) (su_txt : Nat → Int32) (c_at : Int32) (b_countt : Int32) (b_capt : Nat) (b_bytest : Nat → Int32) (post : Int32 → Prop) : Nat → Int32 → Prop
  | 0, _ => False
  | n_2 + 1, x2_2 =>
  wpJ0_length_8abf5 su_len (fun r1 => ((r1 ≤ x2_2 → wpJ0_length_8abf5 su_len (fun r2 => post r2)) ∧
  (¬ r1 ≤ x2_2 → wpJ0_charAt_5068e x2_2 su_len su_txt (fun r3 => wpX3_signAt (c_at + x2_2) b_countt b_capt b_bytest (fun r4 => wpX3_fits r3 r4 (fun r5 => ((¬ r5 = 0 → wpX3_fittingSigns_L2 su_len su_txt c_at b_countt b_capt b_bytest post n_2 (x2_2 + 1)) ∧
  (r5 = 0 → post x2_2))))))))
def wpX3_fittingSigns (su_len : Nat) (su_txt : Nat → Int32) (c_at : Int32) (b_countt : Int32) (b_capt : Nat) (b_bytest : Nat → Int32) (post : Int32 → Prop) : Prop :=
  (∃ n_2, wpX3_fittingSigns_L2 su_len su_txt c_at b_countt b_capt b_bytest post n_2 0)
def wpX3_readNumber_L4 (b_countt : Int32) (b_capt : Nat) (b_bytest : Nat → Int32) (post : Int32 → Int32 → Prop) : Nat → Int32 → Int32 → Int32 → Prop
  | 0, _, _, _ => False
  | n_4 + 1, x1_4, x2_4, c_at_4 =>
  ((3 ≤ x2_4 → post x1_4 c_at_4) ∧
  (¬ 3 ≤ x2_4 → wpX3_signAt c_at_4 b_countt b_capt b_bytest (fun r1 => wpX3_isDigit r1 (fun r2 => ((r2 = 0 → post x1_4 c_at_4) ∧
  (¬ r2 = 0 → wpX3_signAt c_at_4 b_countt b_capt b_bytest (fun r3 => wpX3_readNumber_L4 b_countt b_capt b_bytest post n_4 (((x1_4 * 10) + r3) - 48) (x2_4 + 1) (c_at_4 + 1))))))))
def wpX3_readNumber (c_at : Int32) (b_countt : Int32) (b_capt : Nat) (b_bytest : Nat → Int32) (post : Int32 → Int32 → Prop) : Prop :=
  (∃ n_4, wpX3_readNumber_L4 b_countt b_capt b_bytest post n_4 0 0 c_at)
def wpX3_readValues_L4 (su_len : Nat) (su_txt : Nat → Int32) (b_countt : Int32) (b_capt : Nat) (b_bytest : Nat → Int32) (post : (Nat → Int32) → Int32 → Prop) : Nat → Int32 → Int32 → (Nat → Int32) → Int32 → Prop
  | 0, _, _, _, _ => False
  | n_4 + 1, x2_4, x3_4, c_values_4, c_at_4 =>
  wpJ0_length_8abf5 su_len (fun r1 => ((r1 ≤ x3_4 → post c_values_4 c_at_4) ∧
  (¬ r1 ≤ x3_4 → ((4 ≤ x2_4 → post c_values_4 c_at_4) ∧
  (¬ 4 ≤ x2_4 → wpJ0_charAt_5068e x3_4 su_len su_txt (fun r2 => ((¬ r2 = 64 → ((¬ r2 = 35 → ((¬ r2 = 37 → wpX3_readValues_L4 su_len su_txt b_countt b_capt b_bytest post n_4 x2_4 (x3_4 + 1) c_values_4 (c_at_4 + 1)) ∧
  (r2 = 37 → wpX3_readNumber c_at_4 b_countt b_capt b_bytest (fun r3 c_at_v3 => (vp_in x2_4 4 ∧
  post (upd c_values_4 x2_4.toNatClampNeg r3) c_at_v3))))) ∧
  (r2 = 35 → wpX3_signAt c_at_4 b_countt b_capt b_bytest (fun r5 => (vp_in x2_4 4 ∧
  wpX3_readValues_L4 su_len su_txt b_countt b_capt b_bytest post n_4 (x2_4 + 1) (x3_4 + 1) (upd c_values_4 x2_4.toNatClampNeg (r5 - 48)) (c_at_4 + 1)))))) ∧
  (r2 = 64 → wpX3_signAt c_at_4 b_countt b_capt b_bytest (fun r7 => (vp_in x2_4 4 ∧
  wpX3_readValues_L4 su_len su_txt b_countt b_capt b_bytest post n_4 (x2_4 + 1) (x3_4 + 1) (upd c_values_4 x2_4.toNatClampNeg r7) (c_at_4 + 1)))))))))))
def wpX3_readValues (su_len : Nat) (su_txt : Nat → Int32) (c_values : Nat → Int32) (c_at : Int32) (b_countt : Int32) (b_capt : Nat) (b_bytest : Nat → Int32) (post : (Nat → Int32) → Int32 → Prop) : Prop :=
  (∃ n_4, wpX3_readValues_L4 su_len su_txt b_countt b_capt b_bytest post n_4 0 0 c_values c_at)
def wpX3_readCommand_L4 (b_countt : Int32) (b_capt : Nat) (b_bytest : Nat → Int32) (c_values_4 : Nat → Int32) (c_at_4 : Int32) (c_verb_4 : Int32) (post : Int32 → (Nat → Int32) → Int32 → Int32 → Prop) : Nat → Int32 → Int32 → Prop
  | 0, _, _ => False
  | n_4 + 1, x1_4, x2_4 =>
  ((8 < x2_4 → post 0 c_values_4 (c_at_4 + x1_4) c_verb_4) ∧
  (¬ 8 < x2_4 → wpX3_formOf x2_4 (fun k1 => wpX3_fittingSigns (gLen.getD k1 0) (fun j => (gByt.getD k1 []).getD j 0) c_at_4 b_countt b_capt b_bytest (fun r2 => wpJ0_length_8abf5 (gLen.getD k1 0) (fun r3 => ((¬ r2 = r3 → wpX3_readCommand_L4 b_countt b_capt b_bytest c_values_4 c_at_4 c_verb_4 post n_4 (if x1_4 < r2 then r2 else x1_4) (x2_4 + 1)) ∧
  (r2 = r3 → wpX3_readValues (gLen.getD k1 0) (fun j => (gByt.getD k1 []).getD j 0) c_values_4 c_at_4 b_countt b_capt b_bytest (fun c_values_v4 c_at_v4 => post 1 c_values_v4 c_at_v4 x2_4))))))))
def wpX3_readCommand (c_values : Nat → Int32) (c_at : Int32) (c_verb : Int32) (b_countt : Int32) (b_capt : Nat) (b_bytest : Nat → Int32) (post : Int32 → (Nat → Int32) → Int32 → Int32 → Prop) : Prop :=
  (∃ n_4, wpX3_readCommand_L4 b_countt b_capt b_bytest c_values c_at c_verb post n_4 0 0)
def wpX3_countCommands_L7 (b_countt : Int32) (b_capt : Nat) (b_bytest : Nat → Int32) (post : Int32 → (Nat → Int32) → Int32 → Int32 → Prop) : Nat → Int32 → (Nat → Int32) → Int32 → Int32 → Prop
  | 0, _, _, _, _ => False
  | n_7 + 1, x1_7, c_values_7, c_at_7, c_verb_7 =>
  ((60 < x1_7 → post (-1) c_values_7 c_at_7 c_verb_7) ∧
  (¬ 60 < x1_7 → wpX3_readCommand c_values_7 c_at_7 c_verb_7 b_countt b_capt b_bytest (fun r1 c_values_v1 c_at_v1 c_verb_v1 => ((¬ r1 = 0 → wpJ4_length_8abf5 b_countt (fun r2 => ((c_at_v1 < r2 → wpX3_signAt c_at_v1 b_countt b_capt b_bytest (fun r3 => ((r3 = 59 → wpX3_countCommands_L7 b_countt b_capt b_bytest post n_7 (x1_7 + 1) c_values_v1 (c_at_v1 + 1) c_verb_v1) ∧
  (¬ r3 = 59 → post (-1) c_values_v1 c_at_v1 c_verb_v1)))) ∧
  (¬ c_at_v1 < r2 → post x1_7 c_values_v1 c_at_v1 c_verb_v1)))) ∧
  (r1 = 0 → post (-1) c_values_v1 c_at_v1 c_verb_v1)))))
def wpX3_countCommands (c_values : Nat → Int32) (c_at : Int32) (c_verb : Int32) (b_countt : Int32) (b_capt : Nat) (b_bytest : Nat → Int32) (post : Int32 → (Nat → Int32) → Int32 → Int32 → Prop) : Prop :=
  (∃ n_7, wpX3_countCommands_L7 b_countt b_capt b_bytest post n_7 1 c_values 0 c_verb)
def wpX3_readNext (c_values : Nat → Int32) (c_at : Int32) (c_verb : Int32) (b_countt : Int32) (b_capt : Nat) (b_bytest : Nat → Int32) (post : (Nat → Int32) → Int32 → Int32 → Prop) : Prop :=
  wpX3_readCommand c_values c_at c_verb b_countt b_capt b_bytest (fun r1 c_values_v1 c_at_v1 c_verb_v1 => post c_values_v1 (c_at_v1 + 1) c_verb_v1)
def wpX3_value (x1 : Int32) (c_values : Nat → Int32) (post : Int32 → Prop) : Prop :=
  ((x1 < 0 → post 0) ∧
  (¬ x1 < 0 → ((4 ≤ x1 → post 0) ∧
  (¬ 4 ≤ x1 → (vp_in x1 4 ∧
  post (c_values x1.toNatClampNeg))))))
