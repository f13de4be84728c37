/-! the law's entry: by program (wip/p56/gen/start56.py) -/
theorem whole_start {p : Program} {e : Env} {s : State} {m : MethodId} {below : List Frame} {meth : Method} {c : Code} (l : Launch) (hflags : l.flags = flags0) {b L : Nat} {xs : Nat → Int32} (hL : L ≤ 260) (C0 : lw_At p s m meth c b L xs) : W p l e room_1 s m #[Value.ref b] below meth c s.heap [] 0 0 (lw_Z below #[Value.ref b] s) (entryFrame m ([Value.ref b] : List Value).toArray 5) := by
  obtain ⟨hx, hb, hr, hml, hown, hts0, hXs, hbl, hlocks, hgv⟩ := C0
  have hts := lw_hts2 hts0
  have hA0 : ∀ a : Nat, a < s.heap.size → ¬ (fun q : Nat => s.heap.size ≤ q) a := fun a h => Nat.not_le.mpr h
  have hl0 : l.stackTraces = false := by
    show (!l.flags.contains noTraceFlag) = false
    rw [hflags]
    decide +kernel
  obtain ⟨g, hE⟩ := start_g hts
  obtain ⟨t, hX, e60, e61, ezx⟩ := start_x hts hgv hA0 hXs hbl
  have hN := start_n hts
  subst e60
  have hown : s.vm.findClass RL = some m.cls := hown
  have hS : va_S (fun q : Nat => s.heap.size ≤ q) s.heap s.heap [] := va_S.rf
  have hP : va_P g.1 vwCl (List.flatten ([] : List va_W)) s.heap := fun k q h => by simp at h
  have hD : va_D (fun q : Nat => s.heap.size ≤ q) (List.flatten ([] : List va_W)) := ⟨fun i j p q h => by simp at h, fun k q h => by simp at h⟩
  have hl := lv_entry ([.ref (t.1 60)]) (n := 5) (Nat.le_of_ble_eq_true rfl)
  rw [lg_entry_eq]
  generalize (lg_sl ([.ref (t.1 60)]) ++ List.replicate (5 - (lg_sl ([.ref (t.1 60)])).length) Slot.unset).toArray = ls at hl ⊢
  have hl : lv_has ls 5 [(0, .ref (t.1 60))] := hl
  have htz : ∀ w ∈ wsZ_law, w.before (([.ref (t.1 60)] : List Value).toArray) s = true := List.forall_mem_cons.mpr ⟨hts _ tw0.1, fun w h => hts w (List.mem_filter.mp h).1⟩
  exact zz_law hl0 g t L xs ⟨e61, ezx⟩ (post := fun r => r = 1) (fun _ h => h) (q_law (by omega) rfl) hx hb hr hml htz hown hlocks hE hP hD (fun q h => h) (fun q h => h) hS hl hX hN rfl
