/-! what the calls leave -/
theorem z_okL {o : Nat → Int64} {y : Int64} {P : Prop} (h : P) : (((0 : Int32) = 0 → ((¬ (0 : Int32) = 0 → P) ∧ ((0 : Int32) = 0 → ((lg_cmp (vp_updL o (0 : Int32).toNatClampNeg y (0 : Int32).toNatClampNeg) y = 0 → P) ∧ (¬ lg_cmp (vp_updL o (0 : Int32).toNatClampNeg y (0 : Int32).toNatClampNeg) y = 0 → False))))) ∧ (¬ (0 : Int32) = 0 → False)) :=
  ⟨fun _ => ⟨fun _ => h, fun _ => ⟨fun _ => h, fun q => q z_cmp⟩⟩, fun q => q rfl⟩
theorem z_noL {k : Int32} (hk : ¬ k = 0) {P X : Prop} (h : P) : (k = k → ((¬ k = 0 → P) ∧ (k = 0 → X))) ∧ (¬ k = k → False) := ⟨fun _ => ⟨fun _ => h, fun q => absurd q hk⟩, fun q => q rfl⟩
