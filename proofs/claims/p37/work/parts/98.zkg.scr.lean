/-! ===== methods that read the script (by hand) ===== -/
/-- the script lies at b, below all that the law makes -/
def ScX (X : Cx) (b L : Nat) (xs : Nat → Int32) : Prop := match X with
  | (p, l, e, R, s, m, args, below, meth, c, D, cy, base, eD, nL, Q) => va_X b L xs s s.heap ∧ b < s.heap.size ∧ ¬ base ≤ b
theorem z_sld {X : Cx} {cc : ByteArray} {own : String} {M : Mm} {cs sl pc : Nat} {L : List (Nat × Value)} {st : List Value} (g : Gd X cc own) {b n : Nat} {xs : Nat → Int32} {i : Int32} (hSc : ScX X b n xs) (hin : vp_in i n) (d : decode cc pc = .ok (.iaload, 1)) (kk : Z X M cs sl (pc + 1) L (.int (xs i.toNatClampNeg) :: st)) : Z X M cs sl pc L (.int i :: .ref b :: st) := by
  obtain ⟨p, l, e, R, s, m, args, below, meth, c, D, cy, base, eD, nL, Q⟩ := X
  obtain ⟨hx, hb, hml, hown, hlk, hgs, hbs, hst⟩ := g
  obtain ⟨h1, h2, h3⟩ := hSc
  exact fun H locs ls hr hS hl => va_sld hx hb h1 h2 h3 hS hin d (kk H locs ls hr hS hl)
theorem z_slen {X : Cx} {cc : ByteArray} {own : String} {M : Mm} {cs sl pc : Nat} {L : List (Nat × Value)} {st : List Value} (g : Gd X cc own) {b n : Nat} {xs : Nat → Int32} (hSc : ScX X b n xs) (d : decode cc pc = .ok (.arraylength, 1)) (kk : Z X M cs sl (pc + 1) L (.int (nI n) :: st)) : Z X M cs sl pc L (.ref b :: st) := by
  obtain ⟨p, l, e, R, s, m, args, below, meth, c, D, cy, base, eD, nL, Q⟩ := X
  obtain ⟨hx, hb, hml, hown, hlk, hgs, hbs, hst⟩ := g
  obtain ⟨h1, h2, h3⟩ := hSc
  exact fun H locs ls hr hS hl => va_slen hx hb h1 h2 h3 hS d (kk H locs ls hr hS hl)
/-- the script at a callee's start -/
def ScU (E : Ev) (b L : Nat) (xs : Nat → Int32) (U : State) : Prop := va_X b L xs U U.heap ∧ b < U.heap.size ∧ ¬ E.2.2.2.1 ≤ b
def PcS (E : Ev) (b L : Nat) (xs : Nat → Int32) (M : Mm) (av : List Value) : Array Value → State → Prop := fun a U => PcZ E M av a U ∧ ScU E b L xs U
theorem PcS_blind (E : Ev) (b L : Nat) (xs : Nat → Int32) (M : Mm) (av : List Value) : FrameBlind (PcS E b L xs M av) := by
  intro a U g mk h
  obtain ⟨h1, h2, h3, h4⟩ := h
  exact ⟨PcZ_blind E M av a U g mk h1, va_X.moved (u := U) (U := U.calling g mk a) (State.WarmedH.refl U).alike h2, h3, h4⟩
def CTS (E : Ev) (b L : Nat) (xs : Nat → Int32) (y : MethodName) (cc : ByteArray) (n : Nat) (ret : Option FieldType) (fr mc ms : Nat) (av : List Value) (M : Mm) (Po : Option Value → Mm → Prop) (Px : String → Mm → Prop) : Prop :=
  vx_Met E.1 y [.code y cc n ret] (rmm fr mc ms) (PcS E b L xs M av) (QcZ E Po) (XcZ E Px) mc ms (frZ E)
set_option maxHeartbeats 4000000 in
theorem CTS.of {E : Ev} {sb sL : Nat} {xs : Nat → Int32} {y : MethodName} {cc : ByteArray} {n : Nat} {ret : Option FieldType} {fr mc ms : Nat} {av : List Value} {M : Mm} {Po : Option Value → Mm → Prop} {Px : String → Mm → Prop} (hy : plainName y.cls = true) (hL : (lg_sl av).length ≤ n)
    (body : ∀ X : Cx, Gd X cc y.cls → Rt X ret mc ms Po Px → noH X → xE X = E → xN X = n → xR X = rmm fr mc ms → ScX X sb sL xs → (y.name = "<init>" → inInit X) → Z X M 0 0 0 (lv_args 0 av) []) : CTS E sb sL xs y cc n ret fr mc ms av M Po Px := by
  obtain ⟨l, D, cy, base, eD⟩ := E
  refine vx_ofW (cc := cc) (maxL := n) (ret := ret) hy rfl ?_
  intro p e s m args below meth c s₁ B hml hnx hv
  obtain ⟨⟨rfl, htr, hbs, hgs, hrl⟩, hsc⟩ := hv
  have hown : s.vm.findClass y.cls = some m.cls := findClass_of_methodNamed B.named
  have hnm : meth.name = y.name := (name_of_methodNamed B.named B.method).1
  have hl := lv_entry av (n := n) hL
  rw [lg_entry_eq]
  generalize (lg_sl av ++ List.replicate (n - (lg_sl av).length) Slot.unset).toArray = ls at hl ⊢
  exact body (p, l, e, rmm fr mc ms, s, m, av.toArray, below, meth, c, D, cy, base, eD, n, _) ⟨B.exec, B.bytes, hml, hown, B.notSynchronized, hgs, hbs, htr⟩ ⟨rfl, B.returns⟩ hnx rfl rfl rfl hsc (fun h => hnm.trans h) s.heap [] ls hrl va_S.rf hl
set_option maxHeartbeats 4000000 in
theorem z_callSS {X : Cx} {sb sL : Nat} {xs : Nat → Int32} {cc : ByteArray} {own : String} {M : Mm} {cs sl pc : Nat} {L : List (Nat × Value)} {st : List Value} (g : Gd X cc own) {idx n np fr mc ms : Nat} {y : MethodName} {cc' : ByteArray} {ret : Option FieldType} (As rest : List Value) {Po : Option Value → Mm → Prop} {Px : String → Mm → Prop} (f : CS own idx y cc' n ret np) (hSc : ScX X sb sL xs) (hc : CTS (xE X) sb sL xs y cc' n ret fr mc ms As M Po Px)
    (hnp : As.length = np) (hR : fr + 1 ≤ (xR X).frames ∧ 19 + n + lo fr ≤ (xR X).locals) (hcs : cs + mc ≤ (xR X).cells) (hss : sl + ms ≤ (xR X).slots) (hcat : (rest.map fun v => v.category).sum ≤ 8) (hst : st = As.reverse ++ rest) (d : decode cc pc = .ok (.invokestatic idx, 3))
    (kx : ∀ E M', Px E M' → ZX X M' (cs + mc) (sl + ms) pc L E) (kk : ∀ r M', Po r M' → Z X M' (cs + mc) (sl + ms) (pc + 3) L (r.toList ++ rest)) : Z X M cs sl pc L st := by
  obtain ⟨p, l, e, R, s, m, args, below, meth, c, D, cy, base, eD, nL, Q⟩ := X
  obtain ⟨hx, hb, hml, hown, hlk, hgs, hbs, htr⟩ := g
  obtain ⟨f1, f2, f3, f4, f5, f6⟩ := f
  intro H locs ls hr hS hl
  have hlo : 8 + (n + 11) + (rmm fr mc ms).locals ≤ R.locals := by have h9 : 19 + n + lo fr ≤ R.locals := hR.2; show 8 + (n + 11) + lo fr ≤ R.locals; omega
  have hcode : (Cond.code y cc' n ret).before args s = true := hgs.2.1.use f3 rfl
  have hini : (Cond.initialized y.cls).before args s = true := hgs.2.1.use f4 rfl
  refine z_after (Po := Po) (Px := Px) (a := As.toArray) hS hl ?_ kk kx
  rcases f1 with f1 | ⟨host, f1⟩
  · exact vx_runS (Ts := []) (n := np) (ret := ret) (maxL := n) (bytes := cc') ⟨hx, hb, hml, hown, fun _ h => nomatch h⟩ hc ⟨⟨rfl, rfl, hR.1, hlo, z_words hgs.2.1 f3 rfl, List.mem_singleton.mpr rfl, hcode, hini, f5, np_of f6, hgs.2.1.use f1 rfl⟩, hgs.2.1.use f2 rfl⟩ ⟨PcS_blind _ _ _ _ _ _, fun U hU hW => ⟨z_pre htr hbs hgs hr hS U hU hW, va_X.moved hW.alike (by rw [hU]; exact hSc.1.kept (hS.2.1 sb hSc.2.1 hSc.2.2)), by rw [hU]; exact Nat.lt_of_lt_of_le hSc.2.1 hS.1, hSc.2.2⟩⟩ rfl hnp hl.1 hst (lv_room hcat) d ⟨hcs, hss⟩
  · exact vx_runSN (Ts := []) (n := np) (ret := ret) (maxL := n) (bytes := cc') (host := host) ⟨hx, hb, hml, hown, fun _ h => nomatch h⟩ hc ⟨⟨⟨rfl, rfl, hR.1, hlo, z_words hgs.2.1 f3 rfl, List.mem_singleton.mpr rfl⟩, hcode, hini, f5, np_of f6, hgs.2.1.use f1 rfl⟩, hgs.2.1.use f2 rfl, trivial⟩ ⟨PcS_blind _ _ _ _ _ _, fun U hU hW => ⟨z_pre htr hbs hgs hr hS U hU hW, va_X.moved hW.alike (by rw [hU]; exact hSc.1.kept (hS.2.1 sb hSc.2.1 hSc.2.2)), by rw [hU]; exact Nat.lt_of_lt_of_le hSc.2.1 hS.1, hSc.2.2⟩⟩ rfl hnp hl.1 hst (lv_room hcat) d ⟨hcs, hss⟩
