/-! scripts: one command, by its form -/
theorem zwd_l : ∀ k : Nat, k < 18 → ∀ w : Nat, w ∈ zwd k → w ≠ 35 ∧ w ≠ 37 ∧ w ≠ 64 := by decide +kernel
/-- by the first signs -/
def zrho (sg : Nat → Nat) (a : Nat) : Nat := if sg a = 115 then (if sg (a + 1) = 116 then 0 else if sg (a + 1) = 97 then 4 else 6) else if sg a = 119 then (if sg (a + 1) = 105 then 7 else 8) else if sg a = 112 then 1 else if sg a = 111 then 2 else if sg a = 99 then 3 else if sg a = 108 then 5 else 9
def zlt (v : Nat) : Int32 := if v = 0 then 115 else if v = 1 then 112 else if v = 2 then 111 else if v = 3 then 99 else if v = 4 then 83 else if v = 5 then 108 else if v = 6 then 110 else if v = 7 then 119 else 116
/-- what a reader of a command needs -/
def zPS (sg : Nat → Nat) (a k : Nat) (M0 : Nat → Int32) (post : Int32 → Int32 → (Nat → Int32) → Prop) : Prop :=
  (zmt sg a (zrho sg a) → ∀ M', zRw k (zlt (zrho sg a)) (zcv sg a (zrho sg a)).1 (zcv sg a (zrho sg a)).2.1 M0 M' → post 1 (nI (zcv sg a (zrho sg a)).2.2) M') ∧
  (¬ zmt sg a (zrho sg a) → ∀ M', post 0 (nI (a + zft sg (zfm (zrho sg a)) a)) M')
/-- the first sign begins a command -/
def zfs (c : Nat) : Prop := c = 115 ∨ c = 119 ∨ c = 112 ∨ c = 111 ∨ c = 99 ∨ c = 108
/-- where a reader stops that fails -/
def zfp (sg : Nat → Nat) (a : Nat) : Nat := a + (if zrho sg a < 9 then zft sg (zfm (zrho sg a)) a else 0)
/-- a command stands at a -/
def zgd (sg : Nat → Nat) (a : Nat) : Prop := zrho sg a < 9 ∧ zmt sg a (zrho sg a)
theorem zrho_f {sg : Nat → Nat} {a : Nat} : zrho sg a < 9 ↔ zfs (sg a) := by
  unfold zrho zfs
  constructor
  · intro e
    repeat' split at e
    all_goals omega
  · intro e
    repeat' split
    all_goals omega
