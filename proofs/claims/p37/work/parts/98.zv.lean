set_option maxHeartbeats 4000000 in
theorem whole_start {p : Program} {e : Env} {s : State} {m : MethodId} {below : List Frame} {meth : Method} {c : Code} (l : Launch) (hflags : l.flags = flags0) {b L : Nat} {xs : Nat → Int32} (hL : L ≤ 260) (C0 : lw_At p s m meth c b L xs) : W p l e room_1 s m #[Value.ref b] below meth c s.heap [] 0 0 (lw_Z below #[Value.ref b] s) (entryFrame m ([Value.ref b] : List Value).toArray 10) := by
  obtain ⟨hx, hb, hr, hml, hown, hts, hX, hbl, hlocks, hgv⟩ := id C0
  obtain ⟨D, cy, eD, hgs, hwk⟩ := gs_of hts hgv
  have htr : l.stackTraces = false := by unfold Launch.stackTraces; rw [hflags]; decide
  have g : Gd (p, l, e, room_1, s, m, #[Value.ref b], below, meth, c, D, cy, s.heap.size, eD, 10, lw_Z below #[Value.ref b] s) cL_law RL := ⟨hx, hb, hml, hown, hlocks, hgs, Nat.le_refl _, htr⟩
  have hZ := law_start (b := b) (L := L) (xs := xs) (M00 eD) g rfl rfl hL ⟨hX, hbl, Nat.not_le.mpr hbl⟩ (fun M => by
    intro H locs ls hr9 hS hl
    refine va_forget (fun q hq => hS.2.2 q hq) ?_
    exact W.widen (k := 600086) (n := 7301442) (by omega) (by omega) (lw_ret hx hb hr hlocks dL_law_393))
  have hl := lv_entry ([.ref b]) (n := 10) (Nat.le_of_ble_eq_true rfl)
  rw [lg_entry_eq]
  generalize (lg_sl ([.ref b]) ++ List.replicate (10 - (lg_sl ([.ref b])).length) Slot.unset).toArray = ls at hl ⊢
  exact hZ s.heap [] ls (rl_M00 hwk) va_S.rf hl
