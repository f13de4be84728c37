/-! new objects in the law: a builder of texts, a dispatcher -/
def kSB (g : GG) (a at_ : Nat → Nat) (n : Nat) (f : Nat → Int32) (m c : Int32) : va_W := List.flatten [kSO g a at_ m c, kBa g at_ n f]
/-- the addresses, as the blocks name them -/
def zAd (di pa to fto sto hi rg sc tb ob : Nat → Nat) : Nat → Nat → Nat := fun k => match k with
  | 0 => di
  | 1 => pa
  | 2 => to
  | 3 => fun j => to (1 + j)
  | 4 => fun j => to (10 + j)
  | 5 => fto
  | 6 => fun j => fto (1 + j)
  | 7 => fun j => fto (10 + j)
  | 8 => sto
  | 9 => fun j => sto (1 + j)
  | 10 => fun j => sto (10 + j)
  | 11 => hi
  | 12 => rg
  | 13 => sc
  | 14 => tb
  | _ => ob
section GNEW
variable {p : Program} {l : Launch} {e : Env} {R : Room} {s : State} {m : MethodId} {args : Array Value} {below : List Frame} {meth : Method} {c : Code} {H : Heap} {locs : List Loc} {cells slots : Nat} {Q : State → Prop} {cc : ByteArray} {pc : Nat} {ls : Array Slot} {rest : List Value} {g : GG} {t : GT} {A : Nat → Prop}
set_option maxRecDepth 100000 in
set_option maxHeartbeats 4000000 in
theorem zz_newSB {own : String} {nL i1 i2 : Nat} {bs : List va_W} {Ts : List Cond} (hx : p.tables.exec = Jvm.exec) (hb : c.code = cc) (hml : c.maxLocals = nL) (hown : s.vm.findClass own = some m.cls) (hts : ∀ w ∈ Ts, w.before args s = true) (hin : ∀ w ∈ u_ws RJ4 TJ4 4, w ∈ Ts) (hcl : (Cond.classLink own i1 RJ4).before args s = true) (hins : (Cond.instantiable RJ4 4).before args s = true) (hini : (Cond.initialized RJ4).before args s = true) (hlk : (Cond.methodLink own i2 yJ4_init_da8c8).before args s = true) (him : (Cond.instanceMethod yJ4_init_da8c8).before args s = true) (hG : GoodIn Ts wsJ4_init_da8c8)
    (hE : gE g s) (hNI : gNestI s) (hX : gX t A s s.heap) (hP : va_P g.1 vwCl (List.flatten bs) H) (hD : va_D A (List.flatten bs)) (hS : va_S A s.heap H locs) (hA : ∀ q, s.heap.size ≤ q → A q) (hls : ls.size = nL) (h8 : ∀ q : Nat, ((Value.ref q :: rest).map fun v => v.category).sum ≤ 8) (hR : rmJ4_init_da8c8.frames + 1 ≤ R.frames ∧ 8 + (1 + 11) + rmJ4_init_da8c8.locals ≤ R.locals) (hc : cells + 1 + 1 ≤ R.cells) (hs : slots + 4 + 16 ≤ R.slots)
    (hd1 : decode cc pc = .ok (.new i1, 3)) (hd2 : decode cc (pc + 3) = .ok (.dup, 1)) (hd3 : decode cc (pc + 4) = .ok (.invokespecial i2, 3))
    (kk : ∀ (a at_ : Nat → Nat) (H1 : Heap) (locs1 : List Loc), va_P g.1 vwCl (List.flatten (bs ++ [kSB g a at_ 16 (fun _ => 0) 0 0])) H1 → va_D A (List.flatten (bs ++ [kSB g a at_ 16 (fun _ => 0) 0 0])) → va_S A s.heap H1 locs1 → W p l e R s m args below meth c H1 locs1 (cells + 1 + 1) (slots + 4 + 16) Q (F0 m (pc + 7) ls (.ref (a 0) :: rest))) : W p l e R s m args below meth c H locs cells slots Q (F0 m pc ls rest) := by
  refine va_new (ci := 1) (fs := [.null, .int 0, .int 0, .int 0]) (C := RJ4) (T := TJ4) (N := 4) hx hb hts hin tyJ4 tyJ4_ok hown hcl hins hini hE.1 hP hD hS hA rfl (fun j hj => by rcases (show j = 0 ∨ j = 1 ∨ j = 2 ∨ j = 3 by omega) with rfl | rfl | rfl | rfl <;> rfl) (by omega) (by omega) hd1 (fun q H hP hD hS => ?_)
  have hP := gApp hP
  have hD := gAppD hD
  refine lv_dup hx hb hd2 rfl ?_
  have hF := gFree hD hS hA [bs.length]
  have hPs := gSub hP [bs.length]
  have hDs := gDSub hD [bs.length] (by simp [va_nd])
  rw [gPick_last] at hF hPs hDs
  refine va_callv (va_runI (As := []) (rest := .ref q :: rest) ⟨hx, hb, hml, hown, hts⟩ (ctJ4_init_da8c8 l g t q _) (cwI 0 hts hG rfl rfl rfl hini hlk him rfl (by decide +kernel) hR) ⟨gPI.blind, gPI.of hE hNI hPs hDs hX hS hF⟩ rfl rfl hls rfl (lv_room (h8 q)) hd3 ⟨hc, hs⟩) hS (fun q _ h => hF q h) hF (fun u9 t9 H1 locs ht hvm hw hB hz1 hk1 hS => ?_)
  obtain ⟨a, u, rfl, hP1, hD1⟩ := hB
  rw [ht] at hP1
  obtain ⟨hP2, hD2⟩ := gJoin hP hD [bs.length] [kSB g a u 16 (fun _ => 0) 0 0] rfl (by simp [va_nd]) (by rw [gPick_last]; exact hk1) (by rw [gPick_last]; exact hF) hP1 (by rw [gPick_last]; exact hD1)
  rw [gPut_last] at hP2 hD2
  exact kk a u H1 locs hP2 hD2 hS
set_option maxRecDepth 100000 in
set_option maxHeartbeats 8000000 in
theorem zz_newDW {own : String} {nL i1 i2 : Nat} {bs : List va_W} {Ts : List Cond} (hx : p.tables.exec = Jvm.exec) (hb : c.code = cc) (hml : c.maxLocals = nL) (hown : s.vm.findClass own = some m.cls) (hts : ∀ w ∈ Ts, w.before args s = true) (hin : ∀ w ∈ u_ws RX6 TX6 10, w ∈ Ts) (hcl : (Cond.classLink own i1 RX6).before args s = true) (hins : (Cond.instantiable RX6 10).before args s = true) (hini : (Cond.initialized RX6).before args s = true) (hlk : (Cond.methodLink own i2 yX6_init).before args s = true) (him : (Cond.instanceMethod yX6_init).before args s = true) (hG : GoodIn Ts wsX6_init)
    (hE : gE g s) (hNI : gNestI s) (hX : gX t A s s.heap) (hP : va_P g.1 vwCl (List.flatten bs) H) (hD : va_D A (List.flatten bs)) (hS : va_S A s.heap H locs) (hA : ∀ q, s.heap.size ≤ q → A q) (hls : ls.size = nL) (h8 : ∀ q : Nat, ((Value.ref q :: rest).map fun v => v.category).sum ≤ 8) (hR : rmX6_init.frames + 1 ≤ R.frames ∧ 8 + (1 + 11) + rmX6_init.locals ≤ R.locals) (hc : cells + 1 + 204 ≤ R.cells) (hs : slots + 10 + 2039 ≤ R.slots)
    (hd1 : decode cc pc = .ok (.new i1, 3)) (hd2 : decode cc (pc + 3) = .ok (.dup, 1)) (hd3 : decode cc (pc + 4) = .ok (.invokespecial i2, 3))
    (kk : ∀ (a ra : Nat → Nat → Nat) (b1 b2 : Nat → Nat) (H1 : Heap) (locs1 : List Loc), va_P g.1 vwCl (List.flatten (bs ++ [kDW g a ra (zDV0 b1 b2)])) H1 → va_D A (List.flatten (bs ++ [kDW g a ra (zDV0 b1 b2)])) → va_S A s.heap H1 locs1 → W p l e R s m args below meth c H1 locs1 (cells + 1 + 204) (slots + 10 + 2039) Q (F0 m (pc + 7) ls (.ref (a 0 0) :: rest))) : W p l e R s m args below meth c H locs cells slots Q (F0 m pc ls rest) := by
  refine va_new (ci := 10) (fs := [.null, .null, .null, .null, .null, .null, .null, .int 0, .int 0, .int 0]) (C := RX6) (T := TX6) (N := 10) hx hb hts hin tyX6 tyX6_ok hown hcl hins hini hE.1 hP hD hS hA rfl (fun j hj => by rcases (show j = 0 ∨ j = 1 ∨ j = 2 ∨ j = 3 ∨ j = 4 ∨ j = 5 ∨ j = 6 ∨ j = 7 ∨ j = 8 ∨ j = 9 by omega) with rfl | rfl | rfl | rfl | rfl | rfl | rfl | rfl | rfl | rfl <;> rfl) (by omega) (by omega) hd1 (fun q H hP hD hS => ?_)
  have hP := gApp hP
  have hD := gAppD hD
  refine lv_dup hx hb hd2 rfl ?_
  have hF := gFree hD hS hA [bs.length]
  have hPs := gSub hP [bs.length]
  have hDs := gDSub hD [bs.length] (by simp [va_nd])
  rw [gPick_last] at hF hPs hDs
  refine va_callv (va_runI (As := []) (rest := .ref q :: rest) ⟨hx, hb, hml, hown, hts⟩ (ctX6_init l g t q _) (cwI 0 hts hG rfl rfl rfl hini hlk him rfl (by decide +kernel) hR) ⟨gPI.blind, gPI.of hE hNI hPs hDs hX hS hF⟩ rfl rfl hls rfl (lv_room (h8 q)) hd3 ⟨hc, hs⟩) hS (fun q _ h => hF q h) hF (fun u9 t9 H1 locs ht hvm hw hB hz1 hk1 hS => ?_)
  obtain ⟨a_di, a_pa, a_to, a_fto, a_sto, a_hi, a_rg, a_ra, a_sc, a_tb, a_tv, a_ob, a_ov, rfl, hP1, hD1⟩ := hB
  rw [ht] at hP1
  have hP1 : va_P g.1 vwCl (kDB g (zAd a_di a_pa a_to a_fto a_sto a_hi a_rg a_sc a_tb a_ob) a_ra (zDV0 a_tv a_ov)).flatten H1 := hP1
  have hD1 : va_D _ (kDB g (zAd a_di a_pa a_to a_fto a_sto a_hi a_rg a_sc a_tb a_ob) a_ra (zDV0 a_tv a_ov)).flatten := hD1
  rw [← kDW1] at hP1 hD1
  obtain ⟨hP2, hD2⟩ := gJoin hP hD [bs.length] [kDW g (zAd a_di a_pa a_to a_fto a_sto a_hi a_rg a_sc a_tb a_ob) a_ra (zDV0 a_tv a_ov)] rfl (by simp [va_nd]) (by rw [gPick_last]; exact hk1) (by rw [gPick_last]; exact hF) hP1 (by rw [gPick_last]; exact hD1)
  rw [gPut_last] at hP2 hD2
  exact kk _ a_ra a_tv a_ov H1 locs hP2 hD2 hS
end GNEW
