/-! quotients -/
theorem z_n64 {a : UInt64} (h : FP.Core.dIsNaN a = false) : vf_n64 a := by
  have h1 := (FP.Core.ne_nan a).mp ((FP.Core.notNaN_iff a).mp h)
  unfold vf_n64
  rw [UInt64.le_iff_toNat_le, FP.Core.mask_toNat]
  exact h1
theorem z_n32 {a : UInt32} (h : FP.Core.fIsNaN a = false) : vf_n32 a := by
  have h1 := (FP.Core.ne_nan32 a).mp ((FP.Core.notNaN_iff32 a).mp h)
  unfold vf_n32
  rw [UInt32.le_iff_toNat_le, FP.Core.mask_toNat32]
  exact h1
theorem z_dself {a : UInt64} (h : FP.Core.dIsNaN a = false) : Op.cmpValue (FP.dcmp a a) CmpOp.l = 0 := by
  rw [show FP.dcmp a a = some .eq from FP.Core.dcmp_self ((FP.Core.notNaN_iff a).mp h)]
  rfl
theorem z_ddiv {x y : Int32} (hy : y ≠ 0) : FP.Core.dIsNaN (FP.ddiv (FP.i2d x) (FP.i2d y)) = false :=
  FP.Core.ddiv_out (FP.Core.DFin.notNaN (FP.Core.i2d_fin x)) (FP.Core.i2d_fin y) (fun hz => FP.Core.i2d_ne_zero hy ((FP.Core.zero_bits2 _).mp hz))
theorem z_fdiv {x y : Int32} (hy : y ≠ 0) : FP.Core.fIsNaN (FP.fdiv (FP.i2f x) (FP.i2f y)) = false :=
  FP.Core.fdiv_out (FP.Core.FFin.notNaN (FP.Core.i2f_fin x)) (FP.Core.i2f_fin y) (fun hz => FP.Core.i2f_ne_zero hy ((FP.Core.zero_bits232 _).mp hz))
theorem z_f2d {a : UInt32} (h : FP.Core.fIsNaN a = false) : FP.Core.dIsNaN (FP.f2d a) = false := (FP.f2d_nan a).trans h
theorem z_okD {d : Nat → UInt64} {v : UInt64} (hv : FP.Core.dIsNaN v = false) {P X : Prop} (h : P) : (((0 : Int32) = 0 → ((¬ (0 : Int32) = 0 → P) ∧ ((0 : Int32) = 0 → ((Op.cmpValue (FP.dcmp (vf_upd d (0 : Int32).toNatClampNeg v (0 : Int32).toNatClampNeg) v) CmpOp.l = 0 → P) ∧ (¬ Op.cmpValue (FP.dcmp (vf_upd d (0 : Int32).toNatClampNeg v (0 : Int32).toNatClampNeg) v) CmpOp.l = 0 → X))))) ∧ (¬ (0 : Int32) = 0 → False)) := by
  have e : vf_upd d (0 : Int32).toNatClampNeg v (0 : Int32).toNatClampNeg = v := if_pos rfl
  rw [e]
  exact ⟨fun _ => ⟨fun _ => h, fun _ => ⟨fun _ => h, fun q => absurd (z_dself hv) q⟩⟩, fun q => q rfl⟩
theorem z_okF {d : Nat → UInt64} {r : UInt32} (hv : FP.Core.fIsNaN r = false) {P X : Prop} (h : P) : (((0 : Int32) = 0 → ((¬ (0 : Int32) = 0 → P) ∧ ((0 : Int32) = 0 → (vf_n64 (FP.f2d r) ∧ ((Op.cmpValue (FP.dcmp (vf_upd d (0 : Int32).toNatClampNeg (FP.f2d r) (0 : Int32).toNatClampNeg) (FP.f2d r)) CmpOp.l = 0 → P) ∧ (¬ Op.cmpValue (FP.dcmp (vf_upd d (0 : Int32).toNatClampNeg (FP.f2d r) (0 : Int32).toNatClampNeg) (FP.f2d r)) CmpOp.l = 0 → X)))))) ∧ (¬ (0 : Int32) = 0 → False)) := by
  have e : vf_upd d (0 : Int32).toNatClampNeg (FP.f2d r) (0 : Int32).toNatClampNeg = FP.f2d r := if_pos rfl
  rw [e]
  exact ⟨fun _ => ⟨fun _ => h, fun _ => ⟨z_n64 (z_f2d hv), fun _ => h, fun q => absurd (z_dself (z_f2d hv)) q⟩⟩, fun q => q rfl⟩
theorem z_nz {n : Nat} (h0 : 0 < n) (h : n < 2 ^ 31) : nI n ≠ 0 := nI_ne0 h0 h
theorem m_mean {A : Nat → Nat} (hI : zI A) {m : Nat → Int32} (hM : zM A m) {thr : Int32} {post : UInt64 → Int32 → Prop} (h1 : 0 < A 1 → post (FP.ddiv (FP.i2d (nI (zsum (fun i => A (14 + 7 * i)) (A 1)))) (FP.i2d (nI (A 1)))) 0) (h0 : A 1 = 0 → post FP.dconst0 1) : wpX7_meanDepth thr m post := by
  have hA := hI.1
  have m1 : m (1 : Int32).toNatClampNeg = nI (A 1) := hM 1 (by omega)
  unfold wpX7_meanDepth
  refine pk_loop (fun n i (v : Int32) => wpX7_meanDepth_L4 m thr post n v (nI i)) (fun i v => v = nI (zsum (fun i => A (14 + 7 * i)) i)) (A 1) 0 0 (Nat.zero_le _) rfl ?_ ?_
  · rintro n v rfl
    refine ⟨by unfold vp_in; decide, ?_⟩
    rw [m1]
    refine br_t (nI_le (Nat.le_refl _) (by omega)) ⟨by unfold vp_in; decide, ?_⟩
    by_cases e : A 1 = 0
    · refine br_m (by rw [e]; rfl) ?_
      unfold wpX7_meanDepth_L44
      exact m_yes (br_f (by decide) (h0 e))
    · refine br_n (nI_ne0 (by omega) (by omega)) ?_
      unfold wpX7_meanDepth_L44
      refine m_no (br_t rfl ⟨by unfold vp_in; decide, ?_⟩)
      rw [m1]
      exact ⟨z_n64 (z_ddiv (z_nz (by omega) (by omega))), h1 (by omega)⟩
  · rintro n i v hi rfl ih
    refine ⟨by unfold vp_in; decide, ?_⟩
    rw [m1]
    refine br_f (nI_ge hi (by omega)) (m_of hM i 4 rfl (by omega) ?_)
    rw [show 10 + 7 * i + 4 = 14 + 7 * i by omega, nI_1, nI_add]
    exact ih _ rfl
theorem m_share {A : Nat → Nat} (hI : zI A) (h29 : A 0 < 2 ^ 29) {m : Nat → Int32} (hM : zM A m) {thr : Int32} {post : UInt32 → Int32 → Prop} (h1 : 0 < A 1 → post (FP.fdiv (FP.i2f (nI (zcn (fun i => A 0 < A (15 + 7 * i)) (A 1)))) (FP.i2f (nI (A 1)))) 0) (h0 : A 1 = 0 → post FP.fconst0 1) : wpX7_saltedShare thr m post := by
  have hA := hI.1
  have m1 : m (1 : Int32).toNatClampNeg = nI (A 1) := hM 1 (by omega)
  unfold wpX7_saltedShare
  refine pk_loop (fun n i (v : Int32) => wpX7_saltedShare_L4 m thr post n v (nI i)) (fun i v => v = nI (zcn (fun i => A 0 < A (15 + 7 * i)) i)) (A 1) 0 0 (Nat.zero_le _) rfl ?_ ?_
  · rintro n v rfl
    refine ⟨by unfold vp_in; decide, ?_⟩
    rw [m1]
    refine br_t (nI_le (Nat.le_refl _) (by omega)) ⟨by unfold vp_in; decide, ?_⟩
    by_cases e : A 1 = 0
    · refine br_m (by rw [e]; rfl) ?_
      unfold wpX7_saltedShare_L51
      exact m_yes (br_f (by decide) (h0 e))
    · refine br_n (nI_ne0 (by omega) (by omega)) ?_
      unfold wpX7_saltedShare_L51
      refine m_no (br_t rfl ⟨by unfold vp_in; decide, ?_⟩)
      rw [m1]
      exact ⟨z_n32 (z_fdiv (z_nz (by omega) (by omega))), h1 (by omega)⟩
  · rintro n i v hi rfl ih
    have g := hI.2.1 i hi
    refine ⟨by unfold vp_in; decide, ?_⟩
    rw [m1]
    refine br_f (nI_ge hi (by omega)) (m_salted hM (by omega) h29 g.2.2.2.2.2.2.2 (fun e => br_f (by decide) ?_) (fun e => br_t rfl ?_))
    · rw [nI_1, nI_1]
      exact ih _ (by show _ = nI (zcn _ i + (if _ then 1 else 0)); rw [if_pos e])
    · rw [nI_1, show nI (zcn (fun i => A 0 < A (15 + 7 * i)) i) + 0 = nI (zcn (fun i => A 0 < A (15 + 7 * i)) i) from nI_add _ 0]
      exact ih _ (by show _ = nI (zcn _ i + (if _ then 1 else 0)); rw [if_neg e, Nat.add_zero])
