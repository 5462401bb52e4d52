/-! ===== the law's own calls: what the tables say of them; methods with handlers called (printed by gen/mk_lawlk.py) ===== -/
def CSH (own : String) (idx : Nat) (y : MethodName) (cc : ByteArray) (n : Nat) (ret : Option FieldType) (hh : List (Nat × Nat × Nat × Nat)) (np : Nat) : Prop :=
  Cond.methodLink own idx y ∈ lw_tbl ∧ Cond.static y ∈ lw_tbl ∧ Cond.codeWith y cc n ret hh ∈ lw_tbl ∧ Cond.initialized y.cls ∈ lw_tbl ∧ (y.cls ≠ "java/lang/invoke/MethodHandle" ∧ y.cls ≠ "java/lang/invoke/VarHandle") ∧ (parseMethodDescriptor y.desc).map (fun d => d.parameters.length) = some np
set_option maxHeartbeats 4000000 in
theorem z_callSH {X : Cx} {cc : ByteArray} {own : String} {M : Mm} {cs sl pc : Nat} {L : List (Nat × Value)} {st : List Value} (g : Gd X cc own) {idx n np fr mc ms : Nat} {y : MethodName} {cc' : ByteArray} {ret : Option FieldType} {hh : List (Nat × Nat × Nat × Nat)} (As rest : List Value) {Po : Option Value → Mm → Prop} {Px : String → Mm → Prop} (f : CSH own idx y cc' n ret hh np) (hc : CTH (xE X) y cc' n ret hh fr mc ms As M Po Px)
    (hnp : As.length = np) (hR : fr + 1 ≤ (xR X).frames ∧ 19 + n + lo fr ≤ (xR X).locals) (hcs : cs + mc ≤ (xR X).cells) (hss : sl + ms ≤ (xR X).slots) (hcat : (rest.map fun v => v.category).sum ≤ 8) (hst : st = As.reverse ++ rest) (d : decode cc pc = .ok (.invokestatic idx, 3))
    (kx : ∀ E M', Px E M' → ZX X M' (cs + mc) (sl + ms) pc L E) (kk : ∀ r M', Po r M' → Z X M' (cs + mc) (sl + ms) (pc + 3) L (r.toList ++ rest)) : Z X M cs sl pc L st := by
  obtain ⟨p, l, e, R, s, m, args, below, meth, c, D, cy, base, eD, nL, Q⟩ := X
  obtain ⟨hx, hb, hml, hown, hlk, hgs, hbs, htr⟩ := g
  obtain ⟨f1, f2, f3, f4, f5, f6⟩ := f
  intro H locs ls hr hS hl
  have hlo : 8 + (n + 11) + (rmm fr mc ms).locals ≤ R.locals := by have h9 : 19 + n + lo fr ≤ R.locals := hR.2; show 8 + (n + 11) + lo fr ≤ R.locals; omega
  have hcode : (Cond.codeWith y cc' n ret hh).before args s = true := hgs.2.1.use f3 rfl
  have hini : (Cond.initialized y.cls).before args s = true := hgs.2.1.use f4 rfl
  refine z_after (Po := Po) (Px := Px) (a := As.toArray) hS hl ?_ kk kx
  exact vx_runSX (Ts := []) (n := np) (ret := ret) (maxL := n) (bytes := cc') ⟨hx, hb, hml, hown, fun _ h => nomatch h⟩ hc ⟨⟨rfl, rfl, hR.1, hlo, z_words hgs.2.1 f3 rfl, List.mem_singleton.mpr rfl⟩, hcode, hini, f5, np_of f6, hgs.2.1.use f1 rfl, hgs.2.1.use f2 rfl⟩ ⟨PcZ_blind _ _ _, z_pre htr hbs hgs hr hS⟩ rfl hnp hl.1 hst (lv_room hcat) d ⟨hcs, hss⟩
theorem hl_IOE : Cond.classLink RL 66 IOE ∈ lw_tbl := (mT 501 (by decide +kernel))
theorem hl_IAE : Cond.classLink RL 70 IAE ∈ lw_tbl := (mT 502 (by decide +kernel))
theorem hl_ISE : Cond.classLink RL 72 ISE ∈ lw_tbl := (mT 503 (by decide +kernel))
theorem hc_IOE : Cond.castable IOE IOE ∈ lw_tbl := (mT 520 (by decide +kernel))
theorem hc_IAE : Cond.castable IAE IAE ∈ lw_tbl := (mT 214 (by decide +kernel))
theorem hc_ISE : Cond.castable ISE ISE ∈ lw_tbl := (mT 289 (by decide +kernel))
theorem nc_IAE_IOE : (IAE, IOE) ∈ znc := by decide
theorem nc_ISE_IOE : (ISE, IOE) ∈ znc := by decide
theorem nc_ISE_IAE : (ISE, IAE) ∈ znc := by decide
theorem nc_IOE_IAE : (IOE, IAE) ∈ znc := by decide
theorem csh_L_does : CSH RL 145 yL_does cL_does 8 (some .long) [(0, 253, 254, 66), (0, 253, 260, 70), (0, 253, 266, 72)] 6 := ⟨(mT 498 (by decide +kernel)), (mT 499 (by decide +kernel)), (mT 500 (by decide +kernel)), (mT 0 (by decide +kernel)), ⟨by decide +kernel, by decide +kernel⟩, by decide +kernel⟩
