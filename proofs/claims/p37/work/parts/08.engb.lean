def okw (w : Cond) : Bool := match w with
  | .fieldLinkNest .. => true
  | .methodLinkNest .. => true
  | .castable .. => true
  | .declares .. => true
  | w => goodWord w
def TW (U : State) : Prop := ∀ w ∈ lw_tbl, okw w = true → w.before #[] U = true
theorem TW.warm {s U : State} (hW : s.WarmedH U.vm) (h : TW s) : TW U := by
  intro w hw hg
  have h1 := h w hw hg
  unfold okw at hg
  split at hg
  · exact va_Nw.warmF hW h1
  · exact va_Nw.warmM hW h1
  · exact va_Nw.warmC hW h1
  · exact va_Nw.warmD hW h1
  · exact word_at hW (good_of_word hg) h1
theorem TW.use {s : State} (h : TW s) {w : Cond} {args : Array Value} (hw : w ∈ lw_tbl) (hg : okw w = true) : w.before args s = true := by
  have h1 := h w hw hg
  unfold okw at hg
  split at hg
  · exact va_Nw.use rfl h1
  · exact va_Nw.use rfl h1
  · exact va_Nw.use rfl h1
  · exact va_Nw.use rfl h1
  · exact word_at (State.WarmedH.refl s) (good_of_word hg) h1
def zstr : List (Nat × String) := [(329, "no such rank"), (352, "out of range"), (357, "not possible now"), (360, "does not exist")]
def znc : List (String × String) := [("java/lang/IllegalArgumentException", "java/lang/IndexOutOfBoundsException"), ("java/lang/IllegalStateException", "java/lang/IndexOutOfBoundsException"), ("java/lang/IllegalStateException", "java/lang/IllegalArgumentException"), ("java/lang/IndexOutOfBoundsException", "java/lang/IllegalArgumentException")]
def GS (D : va_G) (cy : Nat → ClassId) (base eD : Nat) (U : State) (H : Heap) : Prop :=
  va_K D vwCl [(cy 0, .int), (cy 2, .object "java/lang/Object")] U ∧ TW U ∧
  va_Z "java/util/ArrayList" "DEFAULTCAPACITY_EMPTY_ELEMENTDATA" "[Ljava/lang/Object;" (.ref eD) (fun q => base ≤ q) U H ∧
  vx_Zq Bundle.tN "UNASSIGNED_STACK" Bundle.steD (fun q => base ≤ q) U H ∧ vx_Zq Bundle.tN "SUPPRESSED_SENTINEL" Bundle.listD (fun q => base ≤ q) U H ∧
  (∀ q ∈ zstr, ∃ sa, vk_R RX10 q.1 q.2 sa U) ∧ (∀ q ∈ znc, va_Nc q.1 q.2 U) ∧ va_AO "java/lang/Object" U ∧ va_Mi "[Ljava/lang/Object;" (cy 3) U
theorem GS.moved {D : va_G} {cy : Nat → ClassId} {base eD : Nat} {u U : State} {H : Heap} (hW : u.WarmedH U.vm) (h : GS D cy base eD u H) : GS D cy base eD U H := by
  obtain ⟨h1, h2, h3, h4, h5, h6, h7, h8, h9⟩ := h
  refine ⟨va_K.moved hW.alike h1, TW.warm hW h2, va_Z.moved hW.alike h3, vx_Zq.moved hW.alike h4, vx_Zq.moved hW.alike h5, fun q hq => ?_, fun q hq => ?_, ?_, ?_⟩
  · obtain ⟨sa, h⟩ := h6 q hq
    exact ⟨sa, vk_R.warm hW h⟩
  · exact va_Nc.moved hW.alike (h7 q hq)
  · exact va_AO.moved hW.alike h8
  · exact va_Mi.moved hW.alike h9
theorem GS.kept {D : va_G} {cy : Nat → ClassId} {base eD : Nat} {U : State} {H H1 : Heap} (h : GS D cy base eD U H) (hq : ∀ a : Nat, a < H.size → ¬ base ≤ a → H1[a]? = H[a]?) : GS D cy base eD U H1 := by
  obtain ⟨h1, h2, h3, h4, h5, h6⟩ := h
  exact ⟨h1, h2, va_Z.kept h3 hq, vx_Zq.kept h4 hq, vx_Zq.kept h5 hq, h6⟩
abbrev Cx : Type := Program × Launch × Env × Room × State × MethodId × Array Value × List Frame × Method × Code × va_G × (Nat → ClassId) × Nat × Nat × Nat × (State → Prop)
abbrev xR (X : Cx) : Room := X.2.2.2.1
abbrev xN (X : Cx) : Nat := X.2.2.2.2.2.2.2.2.2.2.2.2.2.2.1
def Z (X : Cx) (M : Mm) (cs sl pc : Nat) (L : List (Nat × Value)) (st : List Value) : Prop := match X with
  | (p, l, e, R, s, m, args, below, meth, c, D, cy, base, eD, nL, Q) => ∀ (H : Heap) (locs : List Loc) (ls : Array Slot), rl D cy base eD M H → va_S (fun q => base ≤ q) s.heap H locs → lv_has ls nL L → W p l e R s m args below meth c H locs cs sl Q (F0 m pc ls st)
def ZX (X : Cx) (M : Mm) (cs sl pc : Nat) (L : List (Nat × Value)) (E : String) : Prop := match X with
  | (p, l, e, R, s, m, args, below, meth, c, D, cy, base, eD, nL, Q) => ∀ (H : Heap) (locs : List Loc) (ls : Array Slot) (st : List Value) (q : Nat) (ce : Cell), rl D cy base eD M H → va_S (fun q => base ≤ q) s.heap H locs → lv_has ls nL L → H[q]? = some ce → ce.vm = .none → s.vm.findClass E = some ce.cls → vx_W p l e R s m args below meth c H locs cs sl Q (F0 m pc ls st) q
def Gd (X : Cx) (cc : ByteArray) (own : String) : Prop := match X with
  | (p, l, e, R, s, m, args, below, meth, c, D, cy, base, eD, nL, Q) => p.tables.exec = Jvm.exec ∧ c.code = cc ∧ c.maxLocals = nL ∧ s.vm.findClass own = some m.cls ∧ meth.locks = false ∧ GS D cy base eD s s.heap ∧ base ≤ s.heap.size ∧ l.stackTraces = false
def lkp : List (Nat × Value) → Nat → Option Value
  | [], _ => none
  | (j, v) :: t, i => if j = i then some v else lkp t i
theorem lkp_at {ls : Array Slot} {n : Nat} {L : List (Nat × Value)} (h : lv_has ls n L) {i : Nat} {v : Value} (hl : lkp L i = some v) : ls[i]? = some (.val v) := by
  have key : ∀ (L : List (Nat × Value)), lkp L i = some v → (i, v) ∈ L := by
    intro L
    induction L with
    | nil => intro h; cases h
    | cons q L ih =>
      intro h
      obtain ⟨j, w⟩ := q
      unfold lkp at h
      split at h
      · rename_i e
        cases h; subst e
        exact List.mem_cons_self
      · exact List.mem_cons_of_mem _ (ih h)
  exact h.2.2 (i, v) (key L hl)
theorem lkp_get {L : List (Nat × Value)} {i : Nat} {v : Value} (hl : lkp L i = some v) : ∃ k : Nat, L[k]? = some (i, v) := by
  induction L with
  | nil => cases hl
  | cons q L ih =>
    obtain ⟨j, w⟩ := q
    unfold lkp at hl
    split at hl
    · rename_i e
      cases hl; subst e
      exact ⟨0, rfl⟩
    · obtain ⟨k, hk⟩ := ih hl
      exact ⟨k + 1, by simpa using hk⟩
def st1 (L : List (Nat × Value)) (i : Nat) (v : Value) : List (Nat × Value) := (i, v) :: L.filter (fun q => !(q.1 == i) && !(q.1 + 1 == i && q.2.category == 2))
def st2 (L : List (Nat × Value)) (i : Nat) (v : Value) : List (Nat × Value) := (i, v) :: L.filter (fun q => !(q.1 == i) && (!(q.1 == i + 1) && !(q.1 + 1 == i && q.2.category == 2)))
def lsub (L : List (Nat × Value)) : List (Nat × Value) → Prop
  | [] => True
  | q :: t => lkp L q.1 = some q.2 ∧ lsub L t
theorem lsub_has {ls : Array Slot} {n : Nat} {L L' : List (Nat × Value)} (h : lv_has ls n L) (hs : lsub L L') : lv_has ls n L' := by
  refine ⟨h.1, h.2.1, fun q hq => ?_⟩
  induction L' with
  | nil => cases hq
  | cons r L' ih =>
    rcases List.mem_cons.mp hq with e | e
    · subst e; exact lkp_at h hs.1
    · exact ih hs.2 e
theorem z_loc {X : Cx} {M : Mm} {cs sl pc : Nat} {L L' : List (Nat × Value)} {st : List Value} (hs : lsub L L') (kk : Z X M cs sl pc L' st) : Z X M cs sl pc L st := by
  obtain ⟨p, l, e, R, s, m, args, below, meth, c, D, cy, base, eD, nL, Q⟩ := X
  exact fun H locs ls hr hS hl => kk H locs ls hr hS (lsub_has hl hs)
theorem z_wid {X : Cx} {M : Mm} {cs sl pc k n : Nat} {L : List (Nat × Value)} {st : List Value} (h1 : cs ≤ k) (h2 : sl ≤ n) (kk : Z X M k n pc L st) : Z X M cs sl pc L st := by
  obtain ⟨p, l, e, R, s, m, args, below, meth, c, D, cy, base, eD, nL, Q⟩ := X
  exact fun H locs ls hr hS hl => W.widen h1 h2 (kk H locs ls hr hS hl)
theorem z_sK {X : Cx} {M : Mm} {cs sl pc a c : Nat} {L : List (Nat × Value)} {st : List Value} (hk : kd M a ≠ 0) (hro : ¬ ro (kd M a)) (hc0 : c ≠ 0) (hc : c % 1000 = kd M a % 1000) (kk : Z X (sK M a c) cs sl pc L st) : Z X M cs sl pc L st := by
  obtain ⟨p, l, e, R, s, m, args, below, meth, c0, D, cy, base, eD, nL, Q⟩ := X
  exact fun H locs ls hr hS hl => kk H locs ls (rl_sK hr hk hro hc0 hc) hS hl
theorem z_topi {X : Cx} {M : Mm} {cs sl pc : Nat} {L : List (Nat × Value)} {st : List Value} {x : Int32} (k : ∀ y : Int32, y = x → Z X M cs sl pc L (.int y :: st)) : Z X M cs sl pc L (.int x :: st) := k x rfl
theorem z_topl {X : Cx} {M : Mm} {cs sl pc : Nat} {L : List (Nat × Value)} {st : List Value} {x : Int64} (k : ∀ y : Int64, y = x → Z X M cs sl pc L (.long y :: st)) : Z X M cs sl pc L (.long x :: st) := k x rfl
