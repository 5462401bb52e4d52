abbrev Ev : Type := Launch × va_G × (Nat → ClassId) × Nat × Nat
abbrev xE (X : Cx) : Ev := match X with
  | (p, l, e, R, s, m, args, below, meth, c, D, cy, base, eD, nL, Q) => (l, D, cy, base, eD)
def lo (fr : Nat) : Nat := 40 * fr + 100
def rmm (fr mc ms : Nat) : Room := { frames := fr, cells := mc, slots := ms, locals := lo fr }
def PcZ (E : Ev) (M : Mm) (av : List Value) : Array Value → State → Prop := match E with
  | (l, D, cy, base, eD) => va_Pc av (fun U => l.stackTraces = false ∧ base ≤ U.heap.size ∧ GS D cy base eD U U.heap ∧ rl D cy base eD M U.heap)
def QcZ (E : Ev) (Po : Option Value → Mm → Prop) : Array Value → State → Outcome → State → Prop := match E with
  | (l, D, cy, base, eD) => fun _ st o t => (∃ (r : Option Value) (M' : Mm), o = .returned r ∧ Po r M' ∧ rl D cy base eD M' t.heap) ∧ va_F (fun q => base ≤ q) st t
def XcZ (E : Ev) (Px : String → Mm → Prop) : String → State → State → Prop := match E with
  | (l, D, cy, base, eD) => fun E st t => (∃ M' : Mm, Px E M' ∧ rl D cy base eD M' t.heap) ∧ va_F (fun q => base ≤ q) st t
def frZ (E : Ev) : Addr → Prop := match E with
  | (l, D, cy, base, eD) => fun q => base ≤ q
def CT (E : Ev) (y : MethodName) (cc : ByteArray) (n : Nat) (ret : Option FieldType) (fr mc ms : Nat) (av : List Value) (M : Mm) (Po : Option Value → Mm → Prop) (Px : String → Mm → Prop) : Prop :=
  vx_Met E.1 y [.code y cc n ret] (rmm fr mc ms) (PcZ E M av) (QcZ E Po) (XcZ E Px) mc ms (frZ E)
def CTH (E : Ev) (y : MethodName) (cc : ByteArray) (n : Nat) (ret : Option FieldType) (hh : List (Nat × Nat × Nat × Nat)) (fr mc ms : Nat) (av : List Value) (M : Mm) (Po : Option Value → Mm → Prop) (Px : String → Mm → Prop) : Prop :=
  vx_Met E.1 y [.codeWith y cc n ret hh] (rmm fr mc ms) (PcZ E M av) (QcZ E Po) (XcZ E Px) mc ms (frZ E)
def noX : String → Mm → Prop := fun _ _ => False
def Rt (X : Cx) (ret : Option FieldType) (mc ms : Nat) (Po : Option Value → Mm → Prop) (Px : String → Mm → Prop) : Prop := match X with
  | (p, l, e, R, s, m, args, below, meth, c, D, cy, base, eD, nL, Q) => Q = vx_MQ below (QcZ (l, D, cy, base, eD) Po) (XcZ (l, D, cy, base, eD) Px) args s mc ms (fun q => base ≤ q) ∧ meth.sig.returnType = ret
def noH (X : Cx) : Prop := match X with
  | (p, l, e, R, s, m, args, below, meth, c, D, cy, base, eD, nL, Q) => ∀ x ∈ c.exceptionTable.toList, False
def hasH (X : Cx) (hh : List (Nat × Nat × Nat × Nat)) : Prop := match X with
  | (p, l, e, R, s, m, args, below, meth, c, D, cy, base, eD, nL, Q) => c.exceptionTable.toList = tableOf hh
theorem PcZ_blind (E : Ev) (M : Mm) (av : List Value) : FrameBlind (PcZ E M av) := by
  obtain ⟨l, D, cy, base, eD⟩ := E
  intro a U g mk h
  obtain ⟨h1, h2, h3, h4, h5⟩ := h
  exact ⟨h1, h2, h3, GS.moved (u := U) (U := U.calling g mk a) (State.WarmedH.refl U) h4, h5⟩
set_option maxHeartbeats 4000000 in
theorem CT.of {E : Ev} {y : MethodName} {cc : ByteArray} {n : Nat} {ret : Option FieldType} {fr mc ms : Nat} {av : List Value} {M : Mm} {Po : Option Value → Mm → Prop} {Px : String → Mm → Prop} (hy : plainName y.cls = true) (hL : (lg_sl av).length ≤ n)
    (body : ∀ X : Cx, Gd X cc y.cls → Rt X ret mc ms Po Px → noH X → xE X = E → xN X = n → xR X = rmm fr mc ms → (y.name = "<init>" → inInit X) → Z X M 0 0 0 (lv_args 0 av) []) : CT E y cc n ret fr mc ms av M Po Px := by
  obtain ⟨l, D, cy, base, eD⟩ := E
  refine vx_ofW (cc := cc) (maxL := n) (ret := ret) hy rfl ?_
  intro p e s m args below meth c s₁ B hml hnx hv
  obtain ⟨rfl, htr, hbs, hgs, hrl⟩ := hv
  have hown : s.vm.findClass y.cls = some m.cls := findClass_of_methodNamed B.named
  have hnm : meth.name = y.name := (name_of_methodNamed B.named B.method).1
  have hl := lv_entry av (n := n) hL
  rw [lg_entry_eq]
  generalize (lg_sl av ++ List.replicate (n - (lg_sl av).length) Slot.unset).toArray = ls at hl ⊢
  exact body (p, l, e, rmm fr mc ms, s, m, av.toArray, below, meth, c, D, cy, base, eD, n, _) ⟨B.exec, B.bytes, hml, hown, B.notSynchronized, hgs, hbs, htr⟩ ⟨rfl, B.returns⟩ hnx rfl rfl rfl (fun h => hnm.trans h) s.heap [] ls hrl va_S.rf hl
set_option maxHeartbeats 4000000 in
theorem CTH.of {E : Ev} {y : MethodName} {cc : ByteArray} {n : Nat} {ret : Option FieldType} {hh : List (Nat × Nat × Nat × Nat)} {fr mc ms : Nat} {av : List Value} {M : Mm} {Po : Option Value → Mm → Prop} {Px : String → Mm → Prop} (hy : plainName y.cls = true) (hL : (lg_sl av).length ≤ n)
    (body : ∀ X : Cx, Gd X cc y.cls → Rt X ret mc ms Po Px → hasH X hh → xE X = E → xN X = n → xR X = rmm fr mc ms → Z X M 0 0 0 (lv_args 0 av) []) : CTH E y cc n ret hh fr mc ms av M Po Px := by
  obtain ⟨l, D, cy, base, eD⟩ := E
  refine vx_ofWH (cc := cc) (maxL := n) (ret := ret) (hh := hh) hy rfl ?_
  intro p e s m args below meth c s₁ B hml hv
  obtain ⟨rfl, htr, hbs, hgs, hrl⟩ := hv
  have hown : s.vm.findClass y.cls = some m.cls := findClass_of_methodNamed B.named
  have hl := lv_entry av (n := n) hL
  rw [lg_entry_eq]
  generalize (lg_sl av ++ List.replicate (n - (lg_sl av).length) Slot.unset).toArray = ls at hl ⊢
  exact body (p, l, e, rmm fr mc ms, s, m, av.toArray, below, meth, c, D, cy, base, eD, n, _) ⟨B.exec, B.bytes, hml, hown, B.notSynchronized, hgs, hbs, htr⟩ ⟨rfl, B.returns⟩ (vx_table (x := y) B (atoms_spec (ws := [Cond.codeWith y cc n ret hh]) B.pre _ List.mem_cons_self)) rfl rfl rfl s.heap [] ls hrl va_S.rf hl
theorem vx_Q_mono {E : Ev} {Po Po' : Option Value → Mm → Prop} {Px Px' : String → Mm → Prop} {mc ms : Nat} (h1 : ∀ r M, Po r M → Po' r M) (h2 : ∀ x M, Px x M → Px' x M) {a : Array Value} {st t : State} {o : Outcome} (h : vx_Q (QcZ E Po) (XcZ E Px) mc ms (frZ E) a st o t) : vx_Q (QcZ E Po') (XcZ E Px') mc ms (frZ E) a st o t := by
  obtain ⟨l, D, cy, base, eD⟩ := E
  rcases h with ⟨⟨⟨r, M', g1, g2, g3⟩, g4⟩, g5⟩ | ⟨q, g1, E9, ce, L, ⟨⟨M', g2, g3⟩, g4⟩, g5⟩
  · exact Or.inl ⟨⟨⟨r, M', g1, h1 _ _ g2, g3⟩, g4⟩, g5⟩
  · exact Or.inr ⟨q, g1, E9, ce, L, ⟨⟨M', h2 _ _ g2, g3⟩, g4⟩, g5⟩
theorem CT.mono {E : Ev} {y : MethodName} {cc : ByteArray} {n : Nat} {ret : Option FieldType} {fr mc ms : Nat} {av : List Value} {M : Mm} {Po Po' : Option Value → Mm → Prop} {Px Px' : String → Mm → Prop} (h : CT E y cc n ret fr mc ms av M Po Px) (h1 : ∀ r M, Po r M → Po' r M) (h2 : ∀ x M, Px x M → Px' x M) : CT E y cc n ret fr mc ms av M Po' Px' := by
  intro p e ha hc hk s m args below hf happ hP hK
  obtain ⟨k, o, g1, g2, g3, g4⟩ := h p e ha hc hk s m args below hf happ hP hK
  exact ⟨k, o, g1, g2, g3, vx_Q_mono h1 h2 g4⟩
theorem np_of {y : MethodName} {np : Nat} (h : (parseMethodDescriptor y.desc).map (fun d => d.parameters.length) = some np) : ∀ sig, parseMethodDescriptor y.desc = some sig → np = sig.parameters.length := by
  intro sig hs
  rw [hs] at h
  exact (Option.some.inj h).symm
theorem z_after {p : Program} {l : Launch} {e : Env} {R : Room} {s : State} {m : MethodId} {args : Array Value} {below : List Frame} {meth : Method} {c : Code} {D : va_G} {cy : Nat → ClassId} {base eD nL : Nat} {Q : State → Prop} {cs sl pc mc ms : Nat} {L : List (Nat × Value)} {st rest : List Value} {Po : Option Value → Mm → Prop} {Px : String → Mm → Prop} {a : Array Value} {H : Heap} {locs : List Loc} {ls : Array Slot}
    (hS : va_S (fun q => base ≤ q) s.heap H locs) (hl : lv_has ls nL L)
    (run : vx_Run p l e R s m args below meth c H locs cs sl mc ms (F0 m pc ls st) rest (QcZ (l, D, cy, base, eD) Po a) (XcZ (l, D, cy, base, eD) Px) (fun q => base ≤ q))
    (kk : ∀ r M', Po r M' → Z (p, l, e, R, s, m, args, below, meth, c, D, cy, base, eD, nL, Q) M' (cs + mc) (sl + ms) (pc + 3) L (r.toList ++ rest))
    (kx : ∀ E M', Px E M' → ZX (p, l, e, R, s, m, args, below, meth, c, D, cy, base, eD, nL, Q) M' (cs + mc) (sl + ms) pc L E) : W p l e R s m args below meth c H locs cs sl Q (F0 m pc ls st) := by
  intro T hT X
  rcases run T hT X with ⟨v, st₀, t, T', L9, h0, X', hL, e1, e2, ⟨⟨r, M', hv, hp, hrl⟩, hF⟩, st9⟩ | ⟨q, st₀, t, T', L9, E, ce, h0, X', hL, e1, e2, ⟨⟨M', hp, hrl⟩, hF⟩, hce, hcv, hcl, st9⟩
  · cases hv
    obtain ⟨k1, k2, k3⟩ := vx_keep h0 e1 hS (fun _ _ h => h) (fun _ h => h) hL hF
    obtain ⟨t2, a1, b1⟩ := kk v M' hp T'.heap (locs ++ L9) ls (by rw [e1]; exact hrl) k3 hl T' rfl X'
    exact ⟨t2, st9 t2 a1, b1⟩
  · obtain ⟨k1, k2, k3⟩ := vx_keep h0 e1 hS (fun _ _ h => h) (fun _ h => h) hL hF
    obtain ⟨t2, a1, b1⟩ := kx E M' hp T'.heap (locs ++ L9) ls rest q ce (by rw [e1]; exact hrl) k3 hl (by rw [e1]; exact hce) hcv hcl T' rfl X'
    exact ⟨t2, st9.trans a1, b1⟩
theorem z_pre {D : va_G} {cy : Nat → ClassId} {base eD : Nat} {l : Launch} {s : State} {M : Mm} {H : Heap} {locs : List Loc} {av : List Value} (htr : l.stackTraces = false) (hbs : base ≤ s.heap.size) (hgs : GS D cy base eD s s.heap) (hr : rl D cy base eD M H) (hS : va_S (fun q => base ≤ q) s.heap H locs) : ∀ U : State, U.heap = H → s.WarmedH U.vm → PcZ (l, D, cy, base, eD) M av av.toArray U := by
  intro U hU hW
  exact ⟨rfl, htr, by rw [hU]; exact Nat.le_trans hbs hS.1, by rw [hU]; exact (hgs.kept hS.2.1).moved hW, by rw [hU]; exact hr⟩
theorem z_words {s : State} (hT : TW s) {w : Cond} (hw : w ∈ lw_tbl) (hg : goodWord w = true) : ∀ x ∈ [w], ∀ (a' : Array Value) (U : State), s.WarmedH U.vm → x.before a' U = true := by
  intro x hx a' U hW
  rw [List.mem_singleton.mp hx]
  exact word_at hW (good_of_word hg) (hT.use (args := #[]) hw (by unfold okw; split <;> first | rfl | exact hg))
set_option maxHeartbeats 4000000 in
theorem z_callS {X : Cx} {cc : ByteArray} {own : String} {M : Mm} {cs sl pc : Nat} {L : List (Nat × Value)} {st : List Value} (g : Gd X cc own) {idx n np fr mc ms : Nat} {y : MethodName} {cc' : ByteArray} {ret : Option FieldType} (As rest : List Value) {Po : Option Value → Mm → Prop} {Px : String → Mm → Prop} (f : CS own idx y cc' n ret np) (hc : CT (xE X) y cc' n ret fr mc ms As M Po Px)
    (hnp : As.length = np) (hR : fr + 1 ≤ (xR X).frames ∧ 19 + n + lo fr ≤ (xR X).locals) (hcs : cs + mc ≤ (xR X).cells) (hss : sl + ms ≤ (xR X).slots) (hcat : (rest.map fun v => v.category).sum ≤ 8) (hst : st = As.reverse ++ rest) (d : decode cc pc = .ok (.invokestatic idx, 3))
    (kx : ∀ E M', Px E M' → ZX X M' (cs + mc) (sl + ms) pc L E) (kk : ∀ r M', Po r M' → Z X M' (cs + mc) (sl + ms) (pc + 3) L (r.toList ++ rest)) : Z X M cs sl pc L st := by
  obtain ⟨p, l, e, R, s, m, args, below, meth, c, D, cy, base, eD, nL, Q⟩ := X
  obtain ⟨hx, hb, hml, hown, hlk, hgs, hbs, htr⟩ := g
  obtain ⟨f1, f2, f3, f4, f5, f6⟩ := f
  intro H locs ls hr hS hl
  have hlo : 8 + (n + 11) + (rmm fr mc ms).locals ≤ R.locals := by have h9 : 19 + n + lo fr ≤ R.locals := hR.2; show 8 + (n + 11) + lo fr ≤ R.locals; omega
  have hcode : (Cond.code y cc' n ret).before args s = true := hgs.2.1.use f3 rfl
  have hini : (Cond.initialized y.cls).before args s = true := hgs.2.1.use f4 rfl
  refine z_after (Po := Po) (Px := Px) (a := As.toArray) hS hl ?_ kk kx
  rcases f1 with f1 | ⟨host, f1⟩
  · exact vx_runS (Ts := []) (n := np) (ret := ret) (maxL := n) (bytes := cc') ⟨hx, hb, hml, hown, fun _ h => nomatch h⟩ hc ⟨⟨rfl, rfl, hR.1, hlo, z_words hgs.2.1 f3 rfl, List.mem_singleton.mpr rfl, hcode, hini, f5, np_of f6, hgs.2.1.use f1 rfl⟩, hgs.2.1.use f2 rfl⟩ ⟨PcZ_blind _ _ _, z_pre htr hbs hgs hr hS⟩ rfl hnp hl.1 hst (lv_room hcat) d ⟨hcs, hss⟩
  · exact vx_runSN (Ts := []) (n := np) (ret := ret) (maxL := n) (bytes := cc') (host := host) ⟨hx, hb, hml, hown, fun _ h => nomatch h⟩ hc ⟨⟨⟨rfl, rfl, hR.1, hlo, z_words hgs.2.1 f3 rfl, List.mem_singleton.mpr rfl⟩, hcode, hini, f5, np_of f6, hgs.2.1.use f1 rfl⟩, hgs.2.1.use f2 rfl, trivial⟩ ⟨PcZ_blind _ _ _, z_pre htr hbs hgs hr hS⟩ rfl hnp hl.1 hst (lv_room hcat) d ⟨hcs, hss⟩
theorem z_recv {D : va_G} {cy : Nat → ClassId} {base eD : Nat} {s : State} {M : Mm} {H : Heap} (hgs : GS D cy base eD s s.heap) (hr : rl D cy base eD M H) {a b : Nat} (hk : kd M a % 1000 = b) (hb : b ≠ 0 ∧ b < 100) {C : String} {T : u_T} {N : Nat} (hc : vwCl[cix b]? = some (C, T, N)) : ∃ cellB : Cell, H[a]? = some cellB ∧ cellB.vm.isStatics = false ∧ s.vm.findClass C = some cellB.cls :=
  va_recv (q0 := 0) hgs.1 (va_one (rl_obj hr hk hb.1 hb.2)) hc rfl
theorem z_recvL {D : va_G} {cy : Nat → ClassId} {base eD : Nat} {s : State} {M : Mm} {H : Heap} (hgs : GS D cy base eD s s.heap) (hr : rl D cy base eD M H) {a : Nat} (hk : 400 ≤ kd M a % 1000) : ∃ cellB : Cell, H[a]? = some cellB ∧ cellB.vm.isStatics = false ∧ s.vm.findClass RJx4a65c = some cellB.cls := by
  obtain ⟨ed, g1, -⟩ := hr
  obtain ⟨mc, n, f, h1, -⟩ := (g1 a (fun e => by rw [e] at hk; simp at hk)).1.2.2.2.2 hk
  exact va_recv (q0 := 0) (q := (RJx4a65c, TJx4a65c, 3)) hgs.1 (va_one h1) rfl rfl
set_option maxHeartbeats 4000000 in
theorem z_callV {X : Cx} {cc : ByteArray} {own : String} {M : Mm} {cs sl pc : Nat} {L : List (Nat × Value)} {st : List Value} (g : Gd X cc own) {idx n np fr mc ms a b : Nat} {y : MethodName} {cc' : ByteArray} {ret : Option FieldType} (As rest : List Value) {Po : Option Value → Mm → Prop} {Px : String → Mm → Prop} (f : CV own idx y cc' n ret np b) (hc : CT (xE X) y cc' n ret fr mc ms (.ref a :: As) M Po Px)
    (hk : kd M a % 1000 = b) (hb : b ≠ 0 ∧ b < 100) (hnp : As.length = np) (hR : fr + 1 ≤ (xR X).frames ∧ 19 + n + lo fr ≤ (xR X).locals) (hcs : cs + mc ≤ (xR X).cells) (hss : sl + ms ≤ (xR X).slots) (hcat : (rest.map fun v => v.category).sum ≤ 8) (hst : st = As.reverse ++ .ref a :: rest) (d : decode cc pc = .ok (.invokevirtual idx, 3))
    (kx : ∀ E M', Px E M' → ZX X M' (cs + mc) (sl + ms) pc L E) (kk : ∀ r M', Po r M' → Z X M' (cs + mc) (sl + ms) (pc + 3) L (r.toList ++ rest)) : Z X M cs sl pc L st := by
  obtain ⟨p, l, e, R, s, m, args, below, meth, c, D, cy, base, eD, nL, Q⟩ := X
  obtain ⟨hx, hb', hml, hown, hlk, hgs, hbs, htr⟩ := g
  obtain ⟨f1, f2, f3, f4, f5, f6, f7, T9, N9, f8⟩ := f
  intro H locs ls hr hS hl
  have hlo : 8 + (n + 11) + (rmm fr mc ms).locals ≤ R.locals := by have h9 : 19 + n + lo fr ≤ R.locals := hR.2; show 8 + (n + 11) + lo fr ≤ R.locals; omega
  have hcode : (Cond.code y cc' n ret).before args s = true := hgs.2.1.use f4 rfl
  have hini : (Cond.initialized y.cls).before args s = true := hgs.2.1.use f5 rfl
  refine z_after (Po := Po) (Px := Px) (a := (Value.ref a :: As).toArray) hS hl ?_ kk kx
  rcases f1 with f1 | ⟨host, f1⟩
  · exact vx_runV (Ts := []) (n := np) (ret := ret) (maxL := n) (bytes := cc') (C := y.cls) ⟨hx, hb', hml, hown, fun _ h => nomatch h⟩ hc ⟨⟨rfl, rfl, hR.1, hlo, z_words hgs.2.1 f4 rfl, List.mem_singleton.mpr rfl, hcode, hini, f6, np_of f7, hgs.2.1.use f1 rfl⟩, hgs.2.1.use f2 rfl, hgs.2.1.use f3 rfl⟩ ⟨PcZ_blind _ _ _, z_recv hgs hr hk hb f8, z_pre htr hbs hgs hr hS⟩ rfl hnp hl.1 hst (lv_room hcat) d ⟨hcs, hss⟩
  · exact vx_runVN (Ts := []) (n := np) (ret := ret) (maxL := n) (bytes := cc') (C := y.cls) (host := host) ⟨hx, hb', hml, hown, fun _ h => nomatch h⟩ hc ⟨⟨⟨rfl, rfl, hR.1, hlo, z_words hgs.2.1 f4 rfl, List.mem_singleton.mpr rfl⟩, hcode, hini, f6, np_of f7, hgs.2.1.use f1 rfl⟩, hgs.2.1.use f2 rfl, hgs.2.1.use f3 rfl⟩ ⟨PcZ_blind _ _ _, z_recv hgs hr hk hb f8, z_pre htr hbs hgs hr hS⟩ rfl hnp hl.1 hst (lv_room hcat) d ⟨hcs, hss⟩
set_option maxHeartbeats 4000000 in
theorem z_callL {X : Cx} {cc : ByteArray} {own : String} {M : Mm} {cs sl pc : Nat} {L : List (Nat × Value)} {st : List Value} (g : Gd X cc own) {idx n np fr mc ms a : Nat} {y : MethodName} {cc' : ByteArray} {ret : Option FieldType} (As rest : List Value) {Po : Option Value → Mm → Prop} {Px : String → Mm → Prop} (f : CV own idx y cc' n ret np 20) (hyc : y.cls = RJx4a65c) (hc : CT (xE X) y cc' n ret fr mc ms (.ref a :: As) M Po Px)
    (hk : 400 ≤ kd M a % 1000) (hnp : As.length = np) (hR : fr + 1 ≤ (xR X).frames ∧ 19 + n + lo fr ≤ (xR X).locals) (hcs : cs + mc ≤ (xR X).cells) (hss : sl + ms ≤ (xR X).slots) (hcat : (rest.map fun v => v.category).sum ≤ 8) (hst : st = As.reverse ++ .ref a :: rest) (d : decode cc pc = .ok (.invokevirtual idx, 3))
    (kx : ∀ E M', Px E M' → ZX X M' (cs + mc) (sl + ms) pc L E) (kk : ∀ r M', Po r M' → Z X M' (cs + mc) (sl + ms) (pc + 3) L (r.toList ++ rest)) : Z X M cs sl pc L st := by
  obtain ⟨p, l, e, R, s, m, args, below, meth, c, D, cy, base, eD, nL, Q⟩ := X
  obtain ⟨hx, hb', hml, hown, hlk, hgs, hbs, htr⟩ := g
  obtain ⟨f1, f2, f3, f4, f5, f6, f7, f8⟩ := f
  intro H locs ls hr hS hl
  have hlo : 8 + (n + 11) + (rmm fr mc ms).locals ≤ R.locals := by have h9 : 19 + n + lo fr ≤ R.locals := hR.2; show 8 + (n + 11) + lo fr ≤ R.locals; omega
  have hcode : (Cond.code y cc' n ret).before args s = true := hgs.2.1.use f4 rfl
  have hini : (Cond.initialized y.cls).before args s = true := hgs.2.1.use f5 rfl
  refine z_after (Po := Po) (Px := Px) (a := (Value.ref a :: As).toArray) hS hl ?_ kk kx
  rcases f1 with f1 | ⟨host, f1⟩
  · exact vx_runV (Ts := []) (n := np) (ret := ret) (maxL := n) (bytes := cc') (C := y.cls) ⟨hx, hb', hml, hown, fun _ h => nomatch h⟩ hc ⟨⟨rfl, rfl, hR.1, hlo, z_words hgs.2.1 f4 rfl, List.mem_singleton.mpr rfl, hcode, hini, f6, np_of f7, hgs.2.1.use f1 rfl⟩, hgs.2.1.use f2 rfl, hgs.2.1.use f3 rfl⟩ ⟨PcZ_blind _ _ _, by rw [hyc]; exact z_recvL hgs hr hk, z_pre htr hbs hgs hr hS⟩ rfl hnp hl.1 hst (lv_room hcat) d ⟨hcs, hss⟩
  · exact vx_runVN (Ts := []) (n := np) (ret := ret) (maxL := n) (bytes := cc') (C := y.cls) (host := host) ⟨hx, hb', hml, hown, fun _ h => nomatch h⟩ hc ⟨⟨⟨rfl, rfl, hR.1, hlo, z_words hgs.2.1 f4 rfl, List.mem_singleton.mpr rfl⟩, hcode, hini, f6, np_of f7, hgs.2.1.use f1 rfl⟩, hgs.2.1.use f2 rfl, hgs.2.1.use f3 rfl⟩ ⟨PcZ_blind _ _ _, by rw [hyc]; exact z_recvL hgs hr hk, z_pre htr hbs hgs hr hS⟩ rfl hnp hl.1 hst (lv_room hcat) d ⟨hcs, hss⟩
set_option maxHeartbeats 4000000 in
theorem z_callI {X : Cx} {cc : ByteArray} {own : String} {M : Mm} {cs sl pc : Nat} {L : List (Nat × Value)} {st : List Value} (g : Gd X cc own) {idx n np fr mc ms a : Nat} {y : MethodName} {cc' : ByteArray} (As rest : List Value) {Po : Option Value → Mm → Prop} {Px : String → Mm → Prop} (f : CI own idx y cc' n np) (hc : CT (xE X) y cc' n none fr mc ms (.ref a :: As) M Po Px)
    (hnp : As.length = np) (hR : fr + 1 ≤ (xR X).frames ∧ 19 + n + lo fr ≤ (xR X).locals) (hcs : cs + mc ≤ (xR X).cells) (hss : sl + ms ≤ (xR X).slots) (hcat : (rest.map fun v => v.category).sum ≤ 8) (hst : st = As.reverse ++ .ref a :: rest) (d : decode cc pc = .ok (.invokespecial idx, 3))
    (kx : ∀ E M', Px E M' → ZX X M' (cs + mc) (sl + ms) pc L E) (kk : ∀ r M', Po r M' → Z X M' (cs + mc) (sl + ms) (pc + 3) L (r.toList ++ rest)) : Z X M cs sl pc L st := by
  obtain ⟨p, l, e, R, s, m, args, below, meth, c, D, cy, base, eD, nL, Q⟩ := X
  obtain ⟨hx, hb', hml, hown, hlk, hgs, hbs, htr⟩ := g
  obtain ⟨f1, f2, f3, f4, f5, f6, f7⟩ := f
  intro H locs ls hr hS hl
  have hlo : 8 + (n + 11) + (rmm fr mc ms).locals ≤ R.locals := by have h9 : 19 + n + lo fr ≤ R.locals := hR.2; show 8 + (n + 11) + lo fr ≤ R.locals; omega
  have hcode : (Cond.code y cc' n none).before args s = true := hgs.2.1.use f3 rfl
  have hini : (Cond.initialized y.cls).before args s = true := hgs.2.1.use f4 rfl
  refine z_after (Po := Po) (Px := Px) (a := (Value.ref a :: As).toArray) hS hl ?_ kk kx
  rcases f1 with f1 | ⟨host, f1⟩
  · exact vx_runI (Ts := []) (n := np) (maxL := n) (bytes := cc') ⟨hx, hb', hml, hown, fun _ h => nomatch h⟩ hc ⟨⟨rfl, rfl, hR.1, hlo, z_words hgs.2.1 f3 rfl, List.mem_singleton.mpr rfl, hcode, hini, f5, np_of f6, hgs.2.1.use f1 rfl⟩, f7, hgs.2.1.use f2 rfl⟩ ⟨PcZ_blind _ _ _, z_pre htr hbs hgs hr hS⟩ rfl hnp hl.1 hst (lv_room hcat) d ⟨hcs, hss⟩
  · exact vx_runIN (Ts := []) (n := np) (maxL := n) (bytes := cc') (host := host) ⟨hx, hb', hml, hown, fun _ h => nomatch h⟩ hc ⟨⟨⟨rfl, rfl, hR.1, hlo, z_words hgs.2.1 f3 rfl, List.mem_singleton.mpr rfl⟩, hcode, hini, f5, np_of f6, hgs.2.1.use f1 rfl⟩, f7, hgs.2.1.use f2 rfl⟩ ⟨PcZ_blind _ _ _, z_pre htr hbs hgs hr hS⟩ rfl hnp hl.1 hst (lv_room hcat) d ⟨hcs, hss⟩
theorem z_objInit {X : Cx} {cc : ByteArray} {own : String} {M : Mm} {cs sl pc : Nat} {L : List (Nat × Value)} {st : List Value} (g : Gd X cc own) {idx a : Nat} (w1 : Cond.methodLink own idx Lib.objectInit ∈ lw_tbl) (w2 : Cond.instanceMethod Lib.objectInit ∈ lw_tbl) (w3 : Cond.code Lib.objectInit ⟨#[0xb1]⟩ 1 none ∈ lw_tbl) (hf : 1 ≤ (xR X).frames) (hlo : (st.map fun v => v.category).sum + 12 ≤ (xR X).locals) (d : decode cc pc = .ok (.invokespecial idx, 3)) (kk : Z X M cs sl (pc + 3) L st) : Z X M cs sl pc L (.ref a :: st) := by
  obtain ⟨p, l, e, R, s, m, args, below, meth, c, D, cy, base, eD, nL, Q⟩ := X
  obtain ⟨hx, hb', hml, hown, hlk, hgs, hbs, htr⟩ := g
  intro H locs ls hr hS hl
  refine W.objInit hx hb' hown (hgs.2.1.use w1 rfl) (hgs.2.1.use w2 rfl) (hgs.2.1.use w3 rfl) rfl (by rw [hml]; exact hl.1) rfl d hf (by show 2 * 0 + _ + 12 ≤ R.locals; have h9 : (st.map fun v => v.category).sum + 12 ≤ R.locals := hlo; omega) ?_
  exact kk H locs ls hr hS hl
theorem z_iret {X : Cx} {cc : ByteArray} {own : String} {M : Mm} {cs sl pc mc ms : Nat} {L : List (Nat × Value)} {v : Int32} {ty : FieldType} {Po : Option Value → Mm → Prop} {Px : String → Mm → Prop} (g : Gd X cc own) (r : Rt X (some ty) mc ms Po Px) (hn : narrow ty (.int v) = .int v) (hc : cs ≤ mc) (hs : sl ≤ ms) (d : decode cc pc = .ok (.ireturn, 1)) (hp : Po (some (.int v)) M) : Z X M cs sl pc L [.int v] := by
  obtain ⟨p, l, e, R, s, m, args, below, meth, c, D, cy, base, eD, nL, Q⟩ := X
  obtain ⟨hx, hb', hml, hown, hlk, hgs, hbs, htr⟩ := g
  obtain ⟨rfl, hr'⟩ := r
  intro H locs ls hr hS hl
  refine vx_ret (W.widen hc hs ?_)
  exact W.zret (hlocks := hlk) hx hb' hr' hn (fun t ht hW => ⟨⟨_, M, rfl, hp, by rw [ht]; exact hr⟩, hS.F ht⟩) hS.2.2 d
theorem z_vret {X : Cx} {cc : ByteArray} {own : String} {M : Mm} {cs sl pc mc ms : Nat} {L : List (Nat × Value)} {Po : Option Value → Mm → Prop} {Px : String → Mm → Prop} (g : Gd X cc own) (r : Rt X none mc ms Po Px) (hc : cs ≤ mc) (hs : sl ≤ ms) (d : decode cc pc = .ok (.return_, 1)) (hp : Po none M) : Z X M cs sl pc L [] := by
  obtain ⟨p, l, e, R, s, m, args, below, meth, c, D, cy, base, eD, nL, Q⟩ := X
  obtain ⟨hx, hb', hml, hown, hlk, hgs, hbs, htr⟩ := g
  obtain ⟨rfl, hr'⟩ := r
  intro H locs ls hr hS hl
  refine vx_ret (W.widen hc hs ?_)
  exact W.vret (hlocks := hlk) hx hb' hr' (fun t ht hW => ⟨⟨_, M, rfl, hp, by rw [ht]; exact hr⟩, hS.F ht⟩) hS.2.2 d
theorem z_lret {X : Cx} {cc : ByteArray} {own : String} {M : Mm} {cs sl pc mc ms : Nat} {L : List (Nat × Value)} {v : Int64} {Po : Option Value → Mm → Prop} {Px : String → Mm → Prop} (g : Gd X cc own) (r : Rt X (some .long) mc ms Po Px) (hc : cs ≤ mc) (hs : sl ≤ ms) (d : decode cc pc = .ok (.lreturn, 1)) (hp : Po (some (.long v)) M) : Z X M cs sl pc L [.long v] := by
  obtain ⟨p, l, e, R, s, m, args, below, meth, c, D, cy, base, eD, nL, Q⟩ := X
  obtain ⟨hx, hb', hml, hown, hlk, hgs, hbs, htr⟩ := g
  obtain ⟨rfl, hr'⟩ := r
  intro H locs ls hr hS hl
  refine vx_ret (W.widen hc hs ?_)
  exact W.lret (hlocks := hlk) hx hb' hr' (fun t ht hW => ⟨⟨_, M, rfl, hp, by rw [ht]; exact hr⟩, hS.F ht⟩) hS.2.2 d
theorem z_aret {X : Cx} {cc : ByteArray} {own : String} {M : Mm} {cs sl pc mc ms : Nat} {L : List (Nat × Value)} {v : Value} {rt : FieldType} {Po : Option Value → Mm → Prop} {Px : String → Mm → Prop} (g : Gd X cc own) (r : Rt X (some rt) mc ms Po Px) (hrt : (∃ n, rt = .object n) ∨ ∃ t, rt = .array t) (hv : v = .null ∨ ∃ a, v = .ref a) (hc : cs ≤ mc) (hs : sl ≤ ms) (d : decode cc pc = .ok (.areturn, 1)) (hp : Po (some v) M) : Z X M cs sl pc L [v] := by
  obtain ⟨p, l, e, R, s, m, args, below, meth, c, D, cy, base, eD, nL, Q⟩ := X
  obtain ⟨hx, hb', hml, hown, hlk, hgs, hbs, htr⟩ := g
  obtain ⟨rfl, hr'⟩ := r
  intro H locs ls hr hS hl
  refine vx_ret (W.widen hc hs ?_)
  exact W.aret (hlocks := hlk) hx hb' hr' hrt hv (fun t ht hW => ⟨⟨_, M, rfl, hp, by rw [ht]; exact hr⟩, hS.F ht⟩) hS.2.2 d
theorem zx_out {X : Cx} {cc : ByteArray} {own : String} {M : Mm} {cs sl pc mc ms : Nat} {L : List (Nat × Value)} {ret : Option FieldType} {Po : Option Value → Mm → Prop} {Px : String → Mm → Prop} {E : String} (g : Gd X cc own) (r : Rt X ret mc ms Po Px) (hno : noH X) (hc : cs ≤ mc) (hs : sl ≤ ms) (hp : Px E M) : ZX X M cs sl pc L E := by
  obtain ⟨p, l, e, R, s, m, args, below, meth, c, D, cy, base, eD, nL, Q⟩ := X
  obtain ⟨hx, hb', hml, hown, hlk, hgs, hbs, htr⟩ := g
  obtain ⟨rfl, hr'⟩ := r
  intro H locs ls st q ce hr hS hl h1 h2 h3
  exact vx_out (fun x hx => (hno x hx).elim) hlk h1 h2 h3 (fun t ht hW => ⟨⟨M, hp, by rw [ht]; exact hr⟩, hS.F ht⟩) hS.2.2 hc hs
theorem zx_catch {X : Cx} {cc : ByteArray} {own name E : String} {M : Mm} {cs sl pc : Nat} {L : List (Nat × Value)} {hh : List (Nat × Nat × Nat × Nat)} (g : Gd X cc own) (hhh : hasH X hh) (pre : List ExceptionTableEntry) (x : ExceptionTableEntry) (suf : List ExceptionTableEntry) (hsplit : tableOf hh = pre ++ x :: suf)
    (hpass : ∀ z ∈ pre, covers z pc = false ∨ (z.catchType ≠ 0 ∧ ∃ nm : String, Cond.classLink own z.catchType nm ∈ lw_tbl ∧ (E, nm) ∈ znc)) (hcov : covers x pc = true) (h0 : x.catchType ≠ 0) (hlink : Cond.classLink own x.catchType name ∈ lw_tbl) (hcast : Cond.castable E name ∈ lw_tbl)
    (kk : ∀ q : Nat, Z X M cs sl x.handlerPc L [.ref q]) : ZX X M cs sl pc L E := by
  obtain ⟨p, l, e, R, s, m, args, below, meth, c, D, cy, base, eD, nL, Q⟩ := X
  obtain ⟨hx, hb', hml, hown, hlk, hgs, hbs, htr⟩ := g
  intro H locs ls st q ce hr hS hl h1 h2 h3
  have hhh' : c.exceptionTable.toList = tableOf hh := hhh
  exact vx_catch hown pre x suf (hhh'.trans hsplit) (fun z hz => by
    rcases hpass z hz with h | ⟨ha, nm, hb, hc⟩
    · exact Or.inl h
    · exact Or.inr ⟨ha, nm, hgs.2.1.use hb rfl, hgs.2.2.2.2.2.2.1 _ hc⟩) hcov h0 (hgs.2.1.use hlink rfl) (hgs.2.1.use hcast rfl) h1 h2 h3 (kk q H locs ls hr hS hl)
