theorem z_iconst {X : Cx} {cc : ByteArray} {own : String} {M : Mm} {cs sl pc : Nat} {L : List (Nat × Value)} {st : List Value} (g : Gd X cc own) {n : Int} {v : Int32} (d : decode cc pc = .ok (.iconst n, 1)) (hv : Int32.ofInt n = v) (kk : Z X M cs sl (pc + 1) L (.int v :: st)) : Z X M cs sl pc L st := by
  obtain ⟨p, l, e, R, s, m, args, below, meth, c, D, cy, base, eD, nL, Q⟩ := X
  obtain ⟨hx, hb, hml, hown, hlk, hgs, hbs, hst⟩ := g
  exact fun H locs ls hr hS hl => lv_iconst hx hb d hv (kk H locs ls hr hS hl)
theorem z_bipush {X : Cx} {cc : ByteArray} {own : String} {M : Mm} {cs sl pc : Nat} {L : List (Nat × Value)} {st : List Value} (g : Gd X cc own) {n : Int} {v : Int32} (d : decode cc pc = .ok (.bipush n, 2)) (hv : (Int8.ofInt n).toInt32 = v) (kk : Z X M cs sl (pc + 2) L (.int v :: st)) : Z X M cs sl pc L st := by
  obtain ⟨p, l, e, R, s, m, args, below, meth, c, D, cy, base, eD, nL, Q⟩ := X
  obtain ⟨hx, hb, hml, hown, hlk, hgs, hbs, hst⟩ := g
  exact fun H locs ls hr hS hl => lv_bipush hx hb d hv (kk H locs ls hr hS hl)
theorem z_sipush {X : Cx} {cc : ByteArray} {own : String} {M : Mm} {cs sl pc : Nat} {L : List (Nat × Value)} {st : List Value} (g : Gd X cc own) {n : Int} {v : Int32} (d : decode cc pc = .ok (.sipush n, 3)) (hv : (Int16.ofInt n).toInt32 = v) (kk : Z X M cs sl (pc + 3) L (.int v :: st)) : Z X M cs sl pc L st := by
  obtain ⟨p, l, e, R, s, m, args, below, meth, c, D, cy, base, eD, nL, Q⟩ := X
  obtain ⟨hx, hb, hml, hown, hlk, hgs, hbs, hst⟩ := g
  exact fun H locs ls hr hS hl => lv_sipush hx hb d hv (kk H locs ls hr hS hl)
theorem z_lconst {X : Cx} {cc : ByteArray} {own : String} {M : Mm} {cs sl pc : Nat} {L : List (Nat × Value)} {st : List Value} (g : Gd X cc own) {n : Fin 2} {v : Int64} (d : decode cc pc = .ok (.lconst n, 1)) (hv : Int64.ofNat (n : Nat) = v) (kk : Z X M cs sl (pc + 1) L (.long v :: st)) : Z X M cs sl pc L st := by
  obtain ⟨p, l, e, R, s, m, args, below, meth, c, D, cy, base, eD, nL, Q⟩ := X
  obtain ⟨hx, hb, hml, hown, hlk, hgs, hbs, hst⟩ := g
  exact fun H locs ls hr hS hl => lv_lconst hx hb d hv (kk H locs ls hr hS hl)
theorem z_null {X : Cx} {cc : ByteArray} {own : String} {M : Mm} {cs sl pc : Nat} {L : List (Nat × Value)} {st : List Value} (g : Gd X cc own)  (d : decode cc pc = .ok (.aconst_null, 1)) (kk : Z X M cs sl (pc + 1) L (.null :: st)) : Z X M cs sl pc L st := by
  obtain ⟨p, l, e, R, s, m, args, below, meth, c, D, cy, base, eD, nL, Q⟩ := X
  obtain ⟨hx, hb, hml, hown, hlk, hgs, hbs, hst⟩ := g
  exact fun H locs ls hr hS hl => lv_null hx hb d (kk H locs ls hr hS hl)
theorem z_ldc {X : Cx} {cc : ByteArray} {own : String} {M : Mm} {cs sl pc : Nat} {L : List (Nat × Value)} {st : List Value} (g : Gd X cc own) {index : Nat} {v : Int32} (d : decode cc pc = .ok (.ldc index, 2)) (hw : Jvm.Cond.constant own index v ∈ lw_tbl) (kk : Z X M cs sl (pc + 2) L (.int v :: st)) : Z X M cs sl pc L st := by
  obtain ⟨p, l, e, R, s, m, args, below, meth, c, D, cy, base, eD, nL, Q⟩ := X
  obtain ⟨hx, hb, hml, hown, hlk, hgs, hbs, hst⟩ := g
  exact fun H locs ls hr hS hl => lv_ldc hx hb hown (hgs.2.1.use hw rfl) d (kk H locs ls hr hS hl)
theorem z_ldcw {X : Cx} {cc : ByteArray} {own : String} {M : Mm} {cs sl pc : Nat} {L : List (Nat × Value)} {st : List Value} (g : Gd X cc own) {index : Nat} {v : Int32} (d : decode cc pc = .ok (.ldc_w index, 3)) (hw : Jvm.Cond.constant own index v ∈ lw_tbl) (kk : Z X M cs sl (pc + 3) L (.int v :: st)) : Z X M cs sl pc L st := by
  obtain ⟨p, l, e, R, s, m, args, below, meth, c, D, cy, base, eD, nL, Q⟩ := X
  obtain ⟨hx, hb, hml, hown, hlk, hgs, hbs, hst⟩ := g
  exact fun H locs ls hr hS hl => lv_ldcw hx hb hown (hgs.2.1.use hw rfl) d (kk H locs ls hr hS hl)
theorem z_ldc2 {X : Cx} {cc : ByteArray} {own : String} {M : Mm} {cs sl pc : Nat} {L : List (Nat × Value)} {st : List Value} (g : Gd X cc own) {index : Nat} {v : Int64} (d : decode cc pc = .ok (.ldc2_w index, 3)) (hw : Jvm.Cond.constantLong own index v ∈ lw_tbl) (kk : Z X M cs sl (pc + 3) L (.long v :: st)) : Z X M cs sl pc L st := by
  obtain ⟨p, l, e, R, s, m, args, below, meth, c, D, cy, base, eD, nL, Q⟩ := X
  obtain ⟨hx, hb, hml, hown, hlk, hgs, hbs, hst⟩ := g
  exact fun H locs ls hr hS hl => lv_ldc2 hx hb hown (hgs.2.1.use hw rfl) d (kk H locs ls hr hS hl)
theorem z_iload_n {X : Cx} {cc : ByteArray} {own : String} {M : Mm} {cs sl pc : Nat} {L : List (Nat × Value)} {st : List Value} (g : Gd X cc own) {k : Fin 4} {x : Int32} (d : decode cc pc = .ok (.iload_n k, 1)) (h : lkp L (k : Nat) = some (.int x)) (kk : Z X M cs sl (pc + 1) L (.int x :: st)) : Z X M cs sl pc L st := by
  obtain ⟨p, l, e, R, s, m, args, below, meth, c, D, cy, base, eD, nL, Q⟩ := X
  obtain ⟨hx, hb, hml, hown, hlk, hgs, hbs, hst⟩ := g
  exact fun H locs ls hr hS hl => lv_iload_n hx hb d rfl (lkp_at hl h) (kk H locs ls hr hS hl)
theorem z_iload {X : Cx} {cc : ByteArray} {own : String} {M : Mm} {cs sl pc : Nat} {L : List (Nat × Value)} {st : List Value} (g : Gd X cc own) {i : Nat} {x : Int32} (d : decode cc pc = .ok (.iload i, 2)) (h : lkp L i = some (.int x)) (kk : Z X M cs sl (pc + 2) L (.int x :: st)) : Z X M cs sl pc L st := by
  obtain ⟨p, l, e, R, s, m, args, below, meth, c, D, cy, base, eD, nL, Q⟩ := X
  obtain ⟨hx, hb, hml, hown, hlk, hgs, hbs, hst⟩ := g
  exact fun H locs ls hr hS hl => lv_iload hx hb d (lkp_at hl h) (kk H locs ls hr hS hl)
theorem z_lload_n {X : Cx} {cc : ByteArray} {own : String} {M : Mm} {cs sl pc : Nat} {L : List (Nat × Value)} {st : List Value} (g : Gd X cc own) {k : Fin 4} {x : Int64} (d : decode cc pc = .ok (.lload_n k, 1)) (h : lkp L (k : Nat) = some (.long x)) (kk : Z X M cs sl (pc + 1) L (.long x :: st)) : Z X M cs sl pc L st := by
  obtain ⟨p, l, e, R, s, m, args, below, meth, c, D, cy, base, eD, nL, Q⟩ := X
  obtain ⟨hx, hb, hml, hown, hlk, hgs, hbs, hst⟩ := g
  exact fun H locs ls hr hS hl => lv_lload_n hx hb d rfl (lkp_at hl h) (kk H locs ls hr hS hl)
theorem z_lload {X : Cx} {cc : ByteArray} {own : String} {M : Mm} {cs sl pc : Nat} {L : List (Nat × Value)} {st : List Value} (g : Gd X cc own) {i : Nat} {x : Int64} (d : decode cc pc = .ok (.lload i, 2)) (h : lkp L i = some (.long x)) (kk : Z X M cs sl (pc + 2) L (.long x :: st)) : Z X M cs sl pc L st := by
  obtain ⟨p, l, e, R, s, m, args, below, meth, c, D, cy, base, eD, nL, Q⟩ := X
  obtain ⟨hx, hb, hml, hown, hlk, hgs, hbs, hst⟩ := g
  exact fun H locs ls hr hS hl => lv_lload hx hb d (lkp_at hl h) (kk H locs ls hr hS hl)
theorem z_aload_n {X : Cx} {cc : ByteArray} {own : String} {M : Mm} {cs sl pc : Nat} {L : List (Nat × Value)} {st : List Value} (g : Gd X cc own) {k : Fin 4} {x : Nat} (d : decode cc pc = .ok (.aload_n k, 1)) (h : lkp L (k : Nat) = some (.ref x)) (kk : Z X M cs sl (pc + 1) L (.ref x :: st)) : Z X M cs sl pc L st := by
  obtain ⟨p, l, e, R, s, m, args, below, meth, c, D, cy, base, eD, nL, Q⟩ := X
  obtain ⟨hx, hb, hml, hown, hlk, hgs, hbs, hst⟩ := g
  exact fun H locs ls hr hS hl => lv_aload_n hx hb d rfl (lkp_at hl h) (kk H locs ls hr hS hl)
theorem z_aload {X : Cx} {cc : ByteArray} {own : String} {M : Mm} {cs sl pc : Nat} {L : List (Nat × Value)} {st : List Value} (g : Gd X cc own) {i : Nat} {x : Nat} (d : decode cc pc = .ok (.aload i, 2)) (h : lkp L i = some (.ref x)) (kk : Z X M cs sl (pc + 2) L (.ref x :: st)) : Z X M cs sl pc L st := by
  obtain ⟨p, l, e, R, s, m, args, below, meth, c, D, cy, base, eD, nL, Q⟩ := X
  obtain ⟨hx, hb, hml, hown, hlk, hgs, hbs, hst⟩ := g
  exact fun H locs ls hr hS hl => lv_aload hx hb d (lkp_at hl h) (kk H locs ls hr hS hl)
theorem z_aload_nN {X : Cx} {cc : ByteArray} {own : String} {M : Mm} {cs sl pc : Nat} {L : List (Nat × Value)} {st : List Value} (g : Gd X cc own) {k : Fin 4} (d : decode cc pc = .ok (.aload_n k, 1)) (h : lkp L (k : Nat) = some .null) (kk : Z X M cs sl (pc + 1) L (.null :: st)) : Z X M cs sl pc L st := by
  obtain ⟨p, l, e, R, s, m, args, below, meth, c, D, cy, base, eD, nL, Q⟩ := X
  obtain ⟨hx, hb, hml, hown, hlk, hgs, hbs, hst⟩ := g
  exact fun H locs ls hr hS hl => lv_aload_nN hx hb d rfl (lkp_at hl h) (kk H locs ls hr hS hl)
theorem z_aloadN {X : Cx} {cc : ByteArray} {own : String} {M : Mm} {cs sl pc : Nat} {L : List (Nat × Value)} {st : List Value} (g : Gd X cc own) {i : Nat} (d : decode cc pc = .ok (.aload i, 2)) (h : lkp L i = some .null) (kk : Z X M cs sl (pc + 2) L (.null :: st)) : Z X M cs sl pc L st := by
  obtain ⟨p, l, e, R, s, m, args, below, meth, c, D, cy, base, eD, nL, Q⟩ := X
  obtain ⟨hx, hb, hml, hown, hlk, hgs, hbs, hst⟩ := g
  exact fun H locs ls hr hS hl => lv_aloadN hx hb d (lkp_at hl h) (kk H locs ls hr hS hl)
theorem z_istore_n {X : Cx} {cc : ByteArray} {own : String} {M : Mm} {cs sl pc : Nat} {L : List (Nat × Value)} {st : List Value} (g : Gd X cc own) {k : Fin 4} {x : Int32} (d : decode cc pc = .ok (.istore_n k, 1)) (hn : (k : Nat) < xN X) (kk : Z X M cs sl (pc + 1) (st1 L (k : Nat) (.int x)) st) : Z X M cs sl pc L (.int x :: st) := by
  obtain ⟨p, l, e, R, s, m, args, below, meth, c, D, cy, base, eD, nL, Q⟩ := X
  obtain ⟨hx, hb, hml, hown, hlk, hgs, hbs, hst⟩ := g
  exact fun H locs ls hr hS hl => lv_istore_n hx hb d rfl hl hn rfl (fun ls' hl' => kk H locs ls' hr hS hl')
theorem z_istore {X : Cx} {cc : ByteArray} {own : String} {M : Mm} {cs sl pc : Nat} {L : List (Nat × Value)} {st : List Value} (g : Gd X cc own) {i : Nat} {x : Int32} (d : decode cc pc = .ok (.istore i, 2)) (hn : i < xN X) (kk : Z X M cs sl (pc + 2) (st1 L i (.int x)) st) : Z X M cs sl pc L (.int x :: st) := by
  obtain ⟨p, l, e, R, s, m, args, below, meth, c, D, cy, base, eD, nL, Q⟩ := X
  obtain ⟨hx, hb, hml, hown, hlk, hgs, hbs, hst⟩ := g
  exact fun H locs ls hr hS hl => lv_istore hx hb d hl hn rfl (fun ls' hl' => kk H locs ls' hr hS hl')
theorem z_lstore_n {X : Cx} {cc : ByteArray} {own : String} {M : Mm} {cs sl pc : Nat} {L : List (Nat × Value)} {st : List Value} (g : Gd X cc own) {k : Fin 4} {x : Int64} (d : decode cc pc = .ok (.lstore_n k, 1)) (hn : (k : Nat) + 1 < xN X) (kk : Z X M cs sl (pc + 1) (st2 L (k : Nat) (.long x)) st) : Z X M cs sl pc L (.long x :: st) := by
  obtain ⟨p, l, e, R, s, m, args, below, meth, c, D, cy, base, eD, nL, Q⟩ := X
  obtain ⟨hx, hb, hml, hown, hlk, hgs, hbs, hst⟩ := g
  exact fun H locs ls hr hS hl => lv_lstore_n hx hb d rfl hl hn rfl (fun ls' hl' => kk H locs ls' hr hS hl')
theorem z_lstore {X : Cx} {cc : ByteArray} {own : String} {M : Mm} {cs sl pc : Nat} {L : List (Nat × Value)} {st : List Value} (g : Gd X cc own) {i : Nat} {x : Int64} (d : decode cc pc = .ok (.lstore i, 2)) (hn : i + 1 < xN X) (kk : Z X M cs sl (pc + 2) (st2 L i (.long x)) st) : Z X M cs sl pc L (.long x :: st) := by
  obtain ⟨p, l, e, R, s, m, args, below, meth, c, D, cy, base, eD, nL, Q⟩ := X
  obtain ⟨hx, hb, hml, hown, hlk, hgs, hbs, hst⟩ := g
  exact fun H locs ls hr hS hl => lv_lstore hx hb d hl hn rfl (fun ls' hl' => kk H locs ls' hr hS hl')
theorem z_astore_n {X : Cx} {cc : ByteArray} {own : String} {M : Mm} {cs sl pc : Nat} {L : List (Nat × Value)} {st : List Value} (g : Gd X cc own) {k : Fin 4} {x : Nat} (d : decode cc pc = .ok (.astore_n k, 1)) (hn : (k : Nat) < xN X) (kk : Z X M cs sl (pc + 1) (st1 L (k : Nat) (.ref x)) st) : Z X M cs sl pc L (.ref x :: st) := by
  obtain ⟨p, l, e, R, s, m, args, below, meth, c, D, cy, base, eD, nL, Q⟩ := X
  obtain ⟨hx, hb, hml, hown, hlk, hgs, hbs, hst⟩ := g
  exact fun H locs ls hr hS hl => lv_astore_n hx hb d rfl hl hn rfl (fun ls' hl' => kk H locs ls' hr hS hl')
theorem z_astore {X : Cx} {cc : ByteArray} {own : String} {M : Mm} {cs sl pc : Nat} {L : List (Nat × Value)} {st : List Value} (g : Gd X cc own) {i : Nat} {x : Nat} (d : decode cc pc = .ok (.astore i, 2)) (hn : i < xN X) (kk : Z X M cs sl (pc + 2) (st1 L i (.ref x)) st) : Z X M cs sl pc L (.ref x :: st) := by
  obtain ⟨p, l, e, R, s, m, args, below, meth, c, D, cy, base, eD, nL, Q⟩ := X
  obtain ⟨hx, hb, hml, hown, hlk, hgs, hbs, hst⟩ := g
  exact fun H locs ls hr hS hl => lv_astore hx hb d hl hn rfl (fun ls' hl' => kk H locs ls' hr hS hl')
theorem z_astore_nN {X : Cx} {cc : ByteArray} {own : String} {M : Mm} {cs sl pc : Nat} {L : List (Nat × Value)} {st : List Value} (g : Gd X cc own) {k : Fin 4} (d : decode cc pc = .ok (.astore_n k, 1)) (hn : (k : Nat) < xN X) (kk : Z X M cs sl (pc + 1) (st1 L (k : Nat) .null) st) : Z X M cs sl pc L (.null :: st) := by
  obtain ⟨p, l, e, R, s, m, args, below, meth, c, D, cy, base, eD, nL, Q⟩ := X
  obtain ⟨hx, hb, hml, hown, hlk, hgs, hbs, hst⟩ := g
  exact fun H locs ls hr hS hl => lv_astore_nN hx hb d rfl hl hn rfl (fun ls' hl' => kk H locs ls' hr hS hl')
theorem z_astoreN {X : Cx} {cc : ByteArray} {own : String} {M : Mm} {cs sl pc : Nat} {L : List (Nat × Value)} {st : List Value} (g : Gd X cc own) {i : Nat} (d : decode cc pc = .ok (.astore i, 2)) (hn : i < xN X) (kk : Z X M cs sl (pc + 2) (st1 L i .null) st) : Z X M cs sl pc L (.null :: st) := by
  obtain ⟨p, l, e, R, s, m, args, below, meth, c, D, cy, base, eD, nL, Q⟩ := X
  obtain ⟨hx, hb, hml, hown, hlk, hgs, hbs, hst⟩ := g
  exact fun H locs ls hr hS hl => lv_astoreN hx hb d hl hn rfl (fun ls' hl' => kk H locs ls' hr hS hl')
theorem z_iinc {X : Cx} {cc : ByteArray} {own : String} {M : Mm} {cs sl pc : Nat} {L : List (Nat × Value)} {st : List Value} (g : Gd X cc own) {i : Nat} {n : Int} {x v : Int32} (d : decode cc pc = .ok (.iinc i n, 3)) (h : lkp L i = some (.int x)) (hv : x + Int32.ofInt n = v) (hn : i < xN X) (kk : Z X M cs sl (pc + 3) (st1 L i (.int v)) st) : Z X M cs sl pc L st := by
  obtain ⟨p, l, e, R, s, m, args, below, meth, c, D, cy, base, eD, nL, Q⟩ := X
  obtain ⟨hx, hb, hml, hown, hlk, hgs, hbs, hst⟩ := g
  obtain ⟨k, hk⟩ := lkp_get h
  exact fun H locs ls hr hS hl => lv_iinc hx hb d hl hk hv hn rfl (fun ls' hl' => kk H locs ls' hr hS hl')
theorem z_iadd {X : Cx} {cc : ByteArray} {own : String} {M : Mm} {cs sl pc : Nat} {L : List (Nat × Value)} {st : List Value} (g : Gd X cc own) {x y : Int32} (d : decode cc pc = .ok (.iadd, 1)) (kk : Z X M cs sl (pc + 1) L (.int (x + y) :: st)) : Z X M cs sl pc L (.int y :: .int x :: st) := by
  obtain ⟨p, l, e, R, s, m, args, below, meth, c, D, cy, base, eD, nL, Q⟩ := X
  obtain ⟨hx, hb, hml, hown, hlk, hgs, hbs, hst⟩ := g
  exact fun H locs ls hr hS hl => lv_iadd hx hb d (kk H locs ls hr hS hl)
theorem z_ladd {X : Cx} {cc : ByteArray} {own : String} {M : Mm} {cs sl pc : Nat} {L : List (Nat × Value)} {st : List Value} (g : Gd X cc own) {x y : Int64} (d : decode cc pc = .ok (.ladd, 1)) (kk : Z X M cs sl (pc + 1) L (.long (x + y) :: st)) : Z X M cs sl pc L (.long y :: .long x :: st) := by
  obtain ⟨p, l, e, R, s, m, args, below, meth, c, D, cy, base, eD, nL, Q⟩ := X
  obtain ⟨hx, hb, hml, hown, hlk, hgs, hbs, hst⟩ := g
  exact fun H locs ls hr hS hl => lv_ladd hx hb d (kk H locs ls hr hS hl)
theorem z_isub {X : Cx} {cc : ByteArray} {own : String} {M : Mm} {cs sl pc : Nat} {L : List (Nat × Value)} {st : List Value} (g : Gd X cc own) {x y : Int32} (d : decode cc pc = .ok (.isub, 1)) (kk : Z X M cs sl (pc + 1) L (.int (x - y) :: st)) : Z X M cs sl pc L (.int y :: .int x :: st) := by
  obtain ⟨p, l, e, R, s, m, args, below, meth, c, D, cy, base, eD, nL, Q⟩ := X
  obtain ⟨hx, hb, hml, hown, hlk, hgs, hbs, hst⟩ := g
  exact fun H locs ls hr hS hl => lv_isub hx hb d (kk H locs ls hr hS hl)
theorem z_lsub {X : Cx} {cc : ByteArray} {own : String} {M : Mm} {cs sl pc : Nat} {L : List (Nat × Value)} {st : List Value} (g : Gd X cc own) {x y : Int64} (d : decode cc pc = .ok (.lsub, 1)) (kk : Z X M cs sl (pc + 1) L (.long (x - y) :: st)) : Z X M cs sl pc L (.long y :: .long x :: st) := by
  obtain ⟨p, l, e, R, s, m, args, below, meth, c, D, cy, base, eD, nL, Q⟩ := X
  obtain ⟨hx, hb, hml, hown, hlk, hgs, hbs, hst⟩ := g
  exact fun H locs ls hr hS hl => lv_lsub hx hb d (kk H locs ls hr hS hl)
theorem z_imul {X : Cx} {cc : ByteArray} {own : String} {M : Mm} {cs sl pc : Nat} {L : List (Nat × Value)} {st : List Value} (g : Gd X cc own) {x y : Int32} (d : decode cc pc = .ok (.imul, 1)) (kk : Z X M cs sl (pc + 1) L (.int (x * y) :: st)) : Z X M cs sl pc L (.int y :: .int x :: st) := by
  obtain ⟨p, l, e, R, s, m, args, below, meth, c, D, cy, base, eD, nL, Q⟩ := X
  obtain ⟨hx, hb, hml, hown, hlk, hgs, hbs, hst⟩ := g
  exact fun H locs ls hr hS hl => lv_imul hx hb d (kk H locs ls hr hS hl)
theorem z_lmul {X : Cx} {cc : ByteArray} {own : String} {M : Mm} {cs sl pc : Nat} {L : List (Nat × Value)} {st : List Value} (g : Gd X cc own) {x y : Int64} (d : decode cc pc = .ok (.lmul, 1)) (kk : Z X M cs sl (pc + 1) L (.long (x * y) :: st)) : Z X M cs sl pc L (.long y :: .long x :: st) := by
  obtain ⟨p, l, e, R, s, m, args, below, meth, c, D, cy, base, eD, nL, Q⟩ := X
  obtain ⟨hx, hb, hml, hown, hlk, hgs, hbs, hst⟩ := g
  exact fun H locs ls hr hS hl => lv_lmul hx hb d (kk H locs ls hr hS hl)
theorem z_iand {X : Cx} {cc : ByteArray} {own : String} {M : Mm} {cs sl pc : Nat} {L : List (Nat × Value)} {st : List Value} (g : Gd X cc own) {x y : Int32} (d : decode cc pc = .ok (.iand, 1)) (kk : Z X M cs sl (pc + 1) L (.int (x &&& y) :: st)) : Z X M cs sl pc L (.int y :: .int x :: st) := by
  obtain ⟨p, l, e, R, s, m, args, below, meth, c, D, cy, base, eD, nL, Q⟩ := X
  obtain ⟨hx, hb, hml, hown, hlk, hgs, hbs, hst⟩ := g
  exact fun H locs ls hr hS hl => lv_iand hx hb d (kk H locs ls hr hS hl)
theorem z_land {X : Cx} {cc : ByteArray} {own : String} {M : Mm} {cs sl pc : Nat} {L : List (Nat × Value)} {st : List Value} (g : Gd X cc own) {x y : Int64} (d : decode cc pc = .ok (.land, 1)) (kk : Z X M cs sl (pc + 1) L (.long (x &&& y) :: st)) : Z X M cs sl pc L (.long y :: .long x :: st) := by
  obtain ⟨p, l, e, R, s, m, args, below, meth, c, D, cy, base, eD, nL, Q⟩ := X
  obtain ⟨hx, hb, hml, hown, hlk, hgs, hbs, hst⟩ := g
  exact fun H locs ls hr hS hl => lv_land hx hb d (kk H locs ls hr hS hl)
theorem z_ior {X : Cx} {cc : ByteArray} {own : String} {M : Mm} {cs sl pc : Nat} {L : List (Nat × Value)} {st : List Value} (g : Gd X cc own) {x y : Int32} (d : decode cc pc = .ok (.ior, 1)) (kk : Z X M cs sl (pc + 1) L (.int (x ||| y) :: st)) : Z X M cs sl pc L (.int y :: .int x :: st) := by
  obtain ⟨p, l, e, R, s, m, args, below, meth, c, D, cy, base, eD, nL, Q⟩ := X
  obtain ⟨hx, hb, hml, hown, hlk, hgs, hbs, hst⟩ := g
  exact fun H locs ls hr hS hl => lv_ior hx hb d (kk H locs ls hr hS hl)
theorem z_lor {X : Cx} {cc : ByteArray} {own : String} {M : Mm} {cs sl pc : Nat} {L : List (Nat × Value)} {st : List Value} (g : Gd X cc own) {x y : Int64} (d : decode cc pc = .ok (.lor, 1)) (kk : Z X M cs sl (pc + 1) L (.long (x ||| y) :: st)) : Z X M cs sl pc L (.long y :: .long x :: st) := by
  obtain ⟨p, l, e, R, s, m, args, below, meth, c, D, cy, base, eD, nL, Q⟩ := X
  obtain ⟨hx, hb, hml, hown, hlk, hgs, hbs, hst⟩ := g
  exact fun H locs ls hr hS hl => lv_lor hx hb d (kk H locs ls hr hS hl)
theorem z_ixor {X : Cx} {cc : ByteArray} {own : String} {M : Mm} {cs sl pc : Nat} {L : List (Nat × Value)} {st : List Value} (g : Gd X cc own) {x y : Int32} (d : decode cc pc = .ok (.ixor, 1)) (kk : Z X M cs sl (pc + 1) L (.int (x ^^^ y) :: st)) : Z X M cs sl pc L (.int y :: .int x :: st) := by
  obtain ⟨p, l, e, R, s, m, args, below, meth, c, D, cy, base, eD, nL, Q⟩ := X
  obtain ⟨hx, hb, hml, hown, hlk, hgs, hbs, hst⟩ := g
  exact fun H locs ls hr hS hl => lv_ixor hx hb d (kk H locs ls hr hS hl)
theorem z_lxor {X : Cx} {cc : ByteArray} {own : String} {M : Mm} {cs sl pc : Nat} {L : List (Nat × Value)} {st : List Value} (g : Gd X cc own) {x y : Int64} (d : decode cc pc = .ok (.lxor, 1)) (kk : Z X M cs sl (pc + 1) L (.long (x ^^^ y) :: st)) : Z X M cs sl pc L (.long y :: .long x :: st) := by
  obtain ⟨p, l, e, R, s, m, args, below, meth, c, D, cy, base, eD, nL, Q⟩ := X
  obtain ⟨hx, hb, hml, hown, hlk, hgs, hbs, hst⟩ := g
  exact fun H locs ls hr hS hl => lv_lxor hx hb d (kk H locs ls hr hS hl)
theorem z_idiv {X : Cx} {cc : ByteArray} {own : String} {M : Mm} {cs sl pc : Nat} {L : List (Nat × Value)} {st : List Value} (g : Gd X cc own) {x y : Int32} (d : decode cc pc = .ok (.idiv, 1)) (hne : ¬ y = 0) (kk : Z X M cs sl (pc + 1) L (.int (x / y) :: st)) : Z X M cs sl pc L (.int y :: .int x :: st) := by
  obtain ⟨p, l, e, R, s, m, args, below, meth, c, D, cy, base, eD, nL, Q⟩ := X
  obtain ⟨hx, hb, hml, hown, hlk, hgs, hbs, hst⟩ := g
  exact fun H locs ls hr hS hl => lv_idiv hx hb d hne (kk H locs ls hr hS hl)
theorem z_irem {X : Cx} {cc : ByteArray} {own : String} {M : Mm} {cs sl pc : Nat} {L : List (Nat × Value)} {st : List Value} (g : Gd X cc own) {x y : Int32} (d : decode cc pc = .ok (.irem, 1)) (hne : ¬ y = 0) (kk : Z X M cs sl (pc + 1) L (.int (x - x / y * y) :: st)) : Z X M cs sl pc L (.int y :: .int x :: st) := by
  obtain ⟨p, l, e, R, s, m, args, below, meth, c, D, cy, base, eD, nL, Q⟩ := X
  obtain ⟨hx, hb, hml, hown, hlk, hgs, hbs, hst⟩ := g
  exact fun H locs ls hr hS hl => lv_irem hx hb d hne (kk H locs ls hr hS hl)
theorem z_ldiv {X : Cx} {cc : ByteArray} {own : String} {M : Mm} {cs sl pc : Nat} {L : List (Nat × Value)} {st : List Value} (g : Gd X cc own) {x y : Int64} (d : decode cc pc = .ok (.ldiv, 1)) (hne : ¬ y = 0) (kk : Z X M cs sl (pc + 1) L (.long (x / y) :: st)) : Z X M cs sl pc L (.long y :: .long x :: st) := by
  obtain ⟨p, l, e, R, s, m, args, below, meth, c, D, cy, base, eD, nL, Q⟩ := X
  obtain ⟨hx, hb, hml, hown, hlk, hgs, hbs, hst⟩ := g
  exact fun H locs ls hr hS hl => lv_ldiv hx hb d hne (kk H locs ls hr hS hl)
theorem z_lrem {X : Cx} {cc : ByteArray} {own : String} {M : Mm} {cs sl pc : Nat} {L : List (Nat × Value)} {st : List Value} (g : Gd X cc own) {x y : Int64} (d : decode cc pc = .ok (.lrem, 1)) (hne : ¬ y = 0) (kk : Z X M cs sl (pc + 1) L (.long (x - x / y * y) :: st)) : Z X M cs sl pc L (.long y :: .long x :: st) := by
  obtain ⟨p, l, e, R, s, m, args, below, meth, c, D, cy, base, eD, nL, Q⟩ := X
  obtain ⟨hx, hb, hml, hown, hlk, hgs, hbs, hst⟩ := g
  exact fun H locs ls hr hS hl => lv_lrem hx hb d hne (kk H locs ls hr hS hl)
theorem z_ishl {X : Cx} {cc : ByteArray} {own : String} {M : Mm} {cs sl pc : Nat} {L : List (Nat × Value)} {st : List Value} (g : Gd X cc own) {x y : Int32} (d : decode cc pc = .ok (.ishl, 1)) (kk : Z X M cs sl (pc + 1) L (.int (x <<< (y &&& 31)) :: st)) : Z X M cs sl pc L (.int y :: .int x :: st) := by
  obtain ⟨p, l, e, R, s, m, args, below, meth, c, D, cy, base, eD, nL, Q⟩ := X
  obtain ⟨hx, hb, hml, hown, hlk, hgs, hbs, hst⟩ := g
  exact fun H locs ls hr hS hl => lv_ishl hx hb d (kk H locs ls hr hS hl)
theorem z_ishr {X : Cx} {cc : ByteArray} {own : String} {M : Mm} {cs sl pc : Nat} {L : List (Nat × Value)} {st : List Value} (g : Gd X cc own) {x y : Int32} (d : decode cc pc = .ok (.ishr, 1)) (kk : Z X M cs sl (pc + 1) L (.int (x >>> (y &&& 31)) :: st)) : Z X M cs sl pc L (.int y :: .int x :: st) := by
  obtain ⟨p, l, e, R, s, m, args, below, meth, c, D, cy, base, eD, nL, Q⟩ := X
  obtain ⟨hx, hb, hml, hown, hlk, hgs, hbs, hst⟩ := g
  exact fun H locs ls hr hS hl => lv_ishr hx hb d (kk H locs ls hr hS hl)
theorem z_iushr {X : Cx} {cc : ByteArray} {own : String} {M : Mm} {cs sl pc : Nat} {L : List (Nat × Value)} {st : List Value} (g : Gd X cc own) {x y : Int32} (d : decode cc pc = .ok (.iushr, 1)) (kk : Z X M cs sl (pc + 1) L (.int ((x.toUInt32 >>> (y.toUInt32 &&& Int32.toUInt32 31)).toInt32) :: st)) : Z X M cs sl pc L (.int y :: .int x :: st) := by
  obtain ⟨p, l, e, R, s, m, args, below, meth, c, D, cy, base, eD, nL, Q⟩ := X
  obtain ⟨hx, hb, hml, hown, hlk, hgs, hbs, hst⟩ := g
  exact fun H locs ls hr hS hl => lv_iushr hx hb d rfl (kk H locs ls hr hS hl)
theorem z_lshl {X : Cx} {cc : ByteArray} {own : String} {M : Mm} {cs sl pc : Nat} {L : List (Nat × Value)} {st : List Value} (g : Gd X cc own) {x : Int64} {y : Int32} (d : decode cc pc = .ok (.lshl, 1)) (kk : Z X M cs sl (pc + 1) L (.long (x <<< (y.toInt64 &&& 63)) :: st)) : Z X M cs sl pc L (.int y :: .long x :: st) := by
  obtain ⟨p, l, e, R, s, m, args, below, meth, c, D, cy, base, eD, nL, Q⟩ := X
  obtain ⟨hx, hb, hml, hown, hlk, hgs, hbs, hst⟩ := g
  exact fun H locs ls hr hS hl => lv_lshl hx hb d rfl (kk H locs ls hr hS hl)
theorem z_ineg {X : Cx} {cc : ByteArray} {own : String} {M : Mm} {cs sl pc : Nat} {L : List (Nat × Value)} {st : List Value} (g : Gd X cc own) {x : Int32} (d : decode cc pc = .ok (.ineg, 1)) (kk : Z X M cs sl (pc + 1) L (.int (-x) :: st)) : Z X M cs sl pc L (.int x :: st) := by
  obtain ⟨p, l, e, R, s, m, args, below, meth, c, D, cy, base, eD, nL, Q⟩ := X
  obtain ⟨hx, hb, hml, hown, hlk, hgs, hbs, hst⟩ := g
  exact fun H locs ls hr hS hl => lv_ineg hx hb d (kk H locs ls hr hS hl)
theorem z_i2l {X : Cx} {cc : ByteArray} {own : String} {M : Mm} {cs sl pc : Nat} {L : List (Nat × Value)} {st : List Value} (g : Gd X cc own) {x : Int32} (d : decode cc pc = .ok (.i2l, 1)) (kk : Z X M cs sl (pc + 1) L (.long x.toInt64 :: st)) : Z X M cs sl pc L (.int x :: st) := by
  obtain ⟨p, l, e, R, s, m, args, below, meth, c, D, cy, base, eD, nL, Q⟩ := X
  obtain ⟨hx, hb, hml, hown, hlk, hgs, hbs, hst⟩ := g
  exact fun H locs ls hr hS hl => lv_i2l hx hb d rfl (kk H locs ls hr hS hl)
theorem z_l2i {X : Cx} {cc : ByteArray} {own : String} {M : Mm} {cs sl pc : Nat} {L : List (Nat × Value)} {st : List Value} (g : Gd X cc own) {x : Int64} (d : decode cc pc = .ok (.l2i, 1)) (kk : Z X M cs sl (pc + 1) L (.int x.toInt32 :: st)) : Z X M cs sl pc L (.long x :: st) := by
  obtain ⟨p, l, e, R, s, m, args, below, meth, c, D, cy, base, eD, nL, Q⟩ := X
  obtain ⟨hx, hb, hml, hown, hlk, hgs, hbs, hst⟩ := g
  exact fun H locs ls hr hS hl => lv_l2i hx hb d rfl (kk H locs ls hr hS hl)
theorem z_lcmp {X : Cx} {cc : ByteArray} {own : String} {M : Mm} {cs sl pc : Nat} {L : List (Nat × Value)} {st : List Value} (g : Gd X cc own) {x y : Int64} (d : decode cc pc = .ok (.lcmp, 1)) (kk : Z X M cs sl (pc + 1) L (.int (lg_cmp x y) :: st)) : Z X M cs sl pc L (.long y :: .long x :: st) := by
  obtain ⟨p, l, e, R, s, m, args, below, meth, c, D, cy, base, eD, nL, Q⟩ := X
  obtain ⟨hx, hb, hml, hown, hlk, hgs, hbs, hst⟩ := g
  exact fun H locs ls hr hS hl => W.lcmp hx hb d (kk H locs ls hr hS hl)
theorem z_dup {X : Cx} {cc : ByteArray} {own : String} {M : Mm} {cs sl pc : Nat} {L : List (Nat × Value)} {st : List Value} (g : Gd X cc own) {a : Value} (d : decode cc pc = .ok (.dup, 1)) (ha : a.category = 1) (kk : Z X M cs sl (pc + 1) L (a :: a :: st)) : Z X M cs sl pc L (a :: st) := by
  obtain ⟨p, l, e, R, s, m, args, below, meth, c, D, cy, base, eD, nL, Q⟩ := X
  obtain ⟨hx, hb, hml, hown, hlk, hgs, hbs, hst⟩ := g
  exact fun H locs ls hr hS hl => lv_dup hx hb d ha (kk H locs ls hr hS hl)
theorem z_pop {X : Cx} {cc : ByteArray} {own : String} {M : Mm} {cs sl pc : Nat} {L : List (Nat × Value)} {st : List Value} (g : Gd X cc own) {a : Value} (d : decode cc pc = .ok (.pop, 1)) (ha : a.category = 1) (kk : Z X M cs sl (pc + 1) L st) : Z X M cs sl pc L (a :: st) := by
  obtain ⟨p, l, e, R, s, m, args, below, meth, c, D, cy, base, eD, nL, Q⟩ := X
  obtain ⟨hx, hb, hml, hown, hlk, hgs, hbs, hst⟩ := g
  exact fun H locs ls hr hS hl => lv_pop hx hb d ha (kk H locs ls hr hS hl)
theorem z_dup_x1 {X : Cx} {cc : ByteArray} {own : String} {M : Mm} {cs sl pc : Nat} {L : List (Nat × Value)} {st : List Value} (g : Gd X cc own) {a b : Value} (d : decode cc pc = .ok (.dup_x1, 1)) (ha : a.category = 1) (hb2 : b.category = 1) (kk : Z X M cs sl (pc + 1) L (a :: b :: a :: st)) : Z X M cs sl pc L (a :: b :: st) := by
  obtain ⟨p, l, e, R, s, m, args, below, meth, c, D, cy, base, eD, nL, Q⟩ := X
  obtain ⟨hx, hb, hml, hown, hlk, hgs, hbs, hst⟩ := g
  exact fun H locs ls hr hS hl => lv_dup_x1 hx hb d ha hb2 (kk H locs ls hr hS hl)
theorem z_dup2 {X : Cx} {cc : ByteArray} {own : String} {M : Mm} {cs sl pc : Nat} {L : List (Nat × Value)} {st : List Value} (g : Gd X cc own) {a b : Value} (d : decode cc pc = .ok (.dup2, 1)) (ha : a.category = 1) (hb2 : b.category = 1) (kk : Z X M cs sl (pc + 1) L (a :: b :: a :: b :: st)) : Z X M cs sl pc L (a :: b :: st) := by
  obtain ⟨p, l, e, R, s, m, args, below, meth, c, D, cy, base, eD, nL, Q⟩ := X
  obtain ⟨hx, hb, hml, hown, hlk, hgs, hbs, hst⟩ := g
  exact fun H locs ls hr hS hl => lv_dup2_11 hx hb d ha hb2 (kk H locs ls hr hS hl)
theorem z_goto {X : Cx} {cc : ByteArray} {own : String} {M : Mm} {cs sl pc : Nat} {L : List (Nat × Value)} {st : List Value} (g : Gd X cc own) {off : Int} {tgt : Nat} (d : decode cc pc = .ok (.goto off, 3)) (ht : (pc : Int) + off = (tgt : Int)) (kk : Z X M cs sl tgt L st) : Z X M cs sl pc L st := by
  obtain ⟨p, l, e, R, s, m, args, below, meth, c, D, cy, base, eD, nL, Q⟩ := X
  obtain ⟨hx, hb, hml, hown, hlk, hgs, hbs, hst⟩ := g
  exact fun H locs ls hr hS hl => lv_goto hx hb d ht (kk H locs ls hr hS hl)
theorem z_if_eq {X : Cx} {cc : ByteArray} {own : String} {M : Mm} {cs sl pc : Nat} {L : List (Nat × Value)} {st : List Value} (g : Gd X cc own) {x : Int32} {off : Int} {tgt : Nat} (d : decode cc pc = .ok (.ifCond .eq off, 3)) (ht : (pc : Int) + off = (tgt : Int)) (kt : x = 0 → Z X M cs sl tgt L st) (kf : ¬ x = 0 → Z X M cs sl (pc + 3) L st) : Z X M cs sl pc L (.int x :: st) := by
  obtain ⟨p, l, e, R, s, m, args, below, meth, c, D, cy, base, eD, nL, Q⟩ := X
  obtain ⟨hx, hb, hml, hown, hlk, hgs, hbs, hst⟩ := g
  exact fun H locs ls hr hS hl => lv_if_eq hx hb d ht (fun q => kt q H locs ls hr hS hl) (fun q => kf q H locs ls hr hS hl)
theorem z_icmp_eq {X : Cx} {cc : ByteArray} {own : String} {M : Mm} {cs sl pc : Nat} {L : List (Nat × Value)} {st : List Value} (g : Gd X cc own) {x y : Int32} {off : Int} {tgt : Nat} (d : decode cc pc = .ok (.if_icmp .eq off, 3)) (ht : (pc : Int) + off = (tgt : Int)) (kt : x = y → Z X M cs sl tgt L st) (kf : ¬ x = y → Z X M cs sl (pc + 3) L st) : Z X M cs sl pc L (.int y :: .int x :: st) := by
  obtain ⟨p, l, e, R, s, m, args, below, meth, c, D, cy, base, eD, nL, Q⟩ := X
  obtain ⟨hx, hb, hml, hown, hlk, hgs, hbs, hst⟩ := g
  exact fun H locs ls hr hS hl => lv_icmp_eq hx hb d ht (fun q => kt q H locs ls hr hS hl) (fun q => kf q H locs ls hr hS hl)
theorem z_if_ne {X : Cx} {cc : ByteArray} {own : String} {M : Mm} {cs sl pc : Nat} {L : List (Nat × Value)} {st : List Value} (g : Gd X cc own) {x : Int32} {off : Int} {tgt : Nat} (d : decode cc pc = .ok (.ifCond .ne off, 3)) (ht : (pc : Int) + off = (tgt : Int)) (kt : ¬ x = 0 → Z X M cs sl tgt L st) (kf : x = 0 → Z X M cs sl (pc + 3) L st) : Z X M cs sl pc L (.int x :: st) := by
  obtain ⟨p, l, e, R, s, m, args, below, meth, c, D, cy, base, eD, nL, Q⟩ := X
  obtain ⟨hx, hb, hml, hown, hlk, hgs, hbs, hst⟩ := g
  exact fun H locs ls hr hS hl => lv_if_ne hx hb d ht (fun q => kt q H locs ls hr hS hl) (fun q => kf q H locs ls hr hS hl)
theorem z_icmp_ne {X : Cx} {cc : ByteArray} {own : String} {M : Mm} {cs sl pc : Nat} {L : List (Nat × Value)} {st : List Value} (g : Gd X cc own) {x y : Int32} {off : Int} {tgt : Nat} (d : decode cc pc = .ok (.if_icmp .ne off, 3)) (ht : (pc : Int) + off = (tgt : Int)) (kt : ¬ x = y → Z X M cs sl tgt L st) (kf : x = y → Z X M cs sl (pc + 3) L st) : Z X M cs sl pc L (.int y :: .int x :: st) := by
  obtain ⟨p, l, e, R, s, m, args, below, meth, c, D, cy, base, eD, nL, Q⟩ := X
  obtain ⟨hx, hb, hml, hown, hlk, hgs, hbs, hst⟩ := g
  exact fun H locs ls hr hS hl => lv_icmp_ne hx hb d ht (fun q => kt q H locs ls hr hS hl) (fun q => kf q H locs ls hr hS hl)
theorem z_if_lt {X : Cx} {cc : ByteArray} {own : String} {M : Mm} {cs sl pc : Nat} {L : List (Nat × Value)} {st : List Value} (g : Gd X cc own) {x : Int32} {off : Int} {tgt : Nat} (d : decode cc pc = .ok (.ifCond .lt off, 3)) (ht : (pc : Int) + off = (tgt : Int)) (kt : x < 0 → Z X M cs sl tgt L st) (kf : ¬ x < 0 → Z X M cs sl (pc + 3) L st) : Z X M cs sl pc L (.int x :: st) := by
  obtain ⟨p, l, e, R, s, m, args, below, meth, c, D, cy, base, eD, nL, Q⟩ := X
  obtain ⟨hx, hb, hml, hown, hlk, hgs, hbs, hst⟩ := g
  exact fun H locs ls hr hS hl => lv_if_lt hx hb d ht (fun q => kt q H locs ls hr hS hl) (fun q => kf q H locs ls hr hS hl)
theorem z_icmp_lt {X : Cx} {cc : ByteArray} {own : String} {M : Mm} {cs sl pc : Nat} {L : List (Nat × Value)} {st : List Value} (g : Gd X cc own) {x y : Int32} {off : Int} {tgt : Nat} (d : decode cc pc = .ok (.if_icmp .lt off, 3)) (ht : (pc : Int) + off = (tgt : Int)) (kt : x < y → Z X M cs sl tgt L st) (kf : ¬ x < y → Z X M cs sl (pc + 3) L st) : Z X M cs sl pc L (.int y :: .int x :: st) := by
  obtain ⟨p, l, e, R, s, m, args, below, meth, c, D, cy, base, eD, nL, Q⟩ := X
  obtain ⟨hx, hb, hml, hown, hlk, hgs, hbs, hst⟩ := g
  exact fun H locs ls hr hS hl => lv_icmp_lt hx hb d ht (fun q => kt q H locs ls hr hS hl) (fun q => kf q H locs ls hr hS hl)
theorem z_if_ge {X : Cx} {cc : ByteArray} {own : String} {M : Mm} {cs sl pc : Nat} {L : List (Nat × Value)} {st : List Value} (g : Gd X cc own) {x : Int32} {off : Int} {tgt : Nat} (d : decode cc pc = .ok (.ifCond .ge off, 3)) (ht : (pc : Int) + off = (tgt : Int)) (kt : 0 ≤ x → Z X M cs sl tgt L st) (kf : ¬ 0 ≤ x → Z X M cs sl (pc + 3) L st) : Z X M cs sl pc L (.int x :: st) := by
  obtain ⟨p, l, e, R, s, m, args, below, meth, c, D, cy, base, eD, nL, Q⟩ := X
  obtain ⟨hx, hb, hml, hown, hlk, hgs, hbs, hst⟩ := g
  exact fun H locs ls hr hS hl => lv_if_ge hx hb d ht (fun q => kt q H locs ls hr hS hl) (fun q => kf q H locs ls hr hS hl)
theorem z_icmp_ge {X : Cx} {cc : ByteArray} {own : String} {M : Mm} {cs sl pc : Nat} {L : List (Nat × Value)} {st : List Value} (g : Gd X cc own) {x y : Int32} {off : Int} {tgt : Nat} (d : decode cc pc = .ok (.if_icmp .ge off, 3)) (ht : (pc : Int) + off = (tgt : Int)) (kt : y ≤ x → Z X M cs sl tgt L st) (kf : ¬ y ≤ x → Z X M cs sl (pc + 3) L st) : Z X M cs sl pc L (.int y :: .int x :: st) := by
  obtain ⟨p, l, e, R, s, m, args, below, meth, c, D, cy, base, eD, nL, Q⟩ := X
  obtain ⟨hx, hb, hml, hown, hlk, hgs, hbs, hst⟩ := g
  exact fun H locs ls hr hS hl => lv_icmp_ge hx hb d ht (fun q => kt q H locs ls hr hS hl) (fun q => kf q H locs ls hr hS hl)
theorem z_if_gt {X : Cx} {cc : ByteArray} {own : String} {M : Mm} {cs sl pc : Nat} {L : List (Nat × Value)} {st : List Value} (g : Gd X cc own) {x : Int32} {off : Int} {tgt : Nat} (d : decode cc pc = .ok (.ifCond .gt off, 3)) (ht : (pc : Int) + off = (tgt : Int)) (kt : 0 < x → Z X M cs sl tgt L st) (kf : ¬ 0 < x → Z X M cs sl (pc + 3) L st) : Z X M cs sl pc L (.int x :: st) := by
  obtain ⟨p, l, e, R, s, m, args, below, meth, c, D, cy, base, eD, nL, Q⟩ := X
  obtain ⟨hx, hb, hml, hown, hlk, hgs, hbs, hst⟩ := g
  exact fun H locs ls hr hS hl => lv_if_gt hx hb d ht (fun q => kt q H locs ls hr hS hl) (fun q => kf q H locs ls hr hS hl)
theorem z_icmp_gt {X : Cx} {cc : ByteArray} {own : String} {M : Mm} {cs sl pc : Nat} {L : List (Nat × Value)} {st : List Value} (g : Gd X cc own) {x y : Int32} {off : Int} {tgt : Nat} (d : decode cc pc = .ok (.if_icmp .gt off, 3)) (ht : (pc : Int) + off = (tgt : Int)) (kt : y < x → Z X M cs sl tgt L st) (kf : ¬ y < x → Z X M cs sl (pc + 3) L st) : Z X M cs sl pc L (.int y :: .int x :: st) := by
  obtain ⟨p, l, e, R, s, m, args, below, meth, c, D, cy, base, eD, nL, Q⟩ := X
  obtain ⟨hx, hb, hml, hown, hlk, hgs, hbs, hst⟩ := g
  exact fun H locs ls hr hS hl => lv_icmp_gt hx hb d ht (fun q => kt q H locs ls hr hS hl) (fun q => kf q H locs ls hr hS hl)
theorem z_if_le {X : Cx} {cc : ByteArray} {own : String} {M : Mm} {cs sl pc : Nat} {L : List (Nat × Value)} {st : List Value} (g : Gd X cc own) {x : Int32} {off : Int} {tgt : Nat} (d : decode cc pc = .ok (.ifCond .le off, 3)) (ht : (pc : Int) + off = (tgt : Int)) (kt : x ≤ 0 → Z X M cs sl tgt L st) (kf : ¬ x ≤ 0 → Z X M cs sl (pc + 3) L st) : Z X M cs sl pc L (.int x :: st) := by
  obtain ⟨p, l, e, R, s, m, args, below, meth, c, D, cy, base, eD, nL, Q⟩ := X
  obtain ⟨hx, hb, hml, hown, hlk, hgs, hbs, hst⟩ := g
  exact fun H locs ls hr hS hl => lv_if_le hx hb d ht (fun q => kt q H locs ls hr hS hl) (fun q => kf q H locs ls hr hS hl)
theorem z_icmp_le {X : Cx} {cc : ByteArray} {own : String} {M : Mm} {cs sl pc : Nat} {L : List (Nat × Value)} {st : List Value} (g : Gd X cc own) {x y : Int32} {off : Int} {tgt : Nat} (d : decode cc pc = .ok (.if_icmp .le off, 3)) (ht : (pc : Int) + off = (tgt : Int)) (kt : x ≤ y → Z X M cs sl tgt L st) (kf : ¬ x ≤ y → Z X M cs sl (pc + 3) L st) : Z X M cs sl pc L (.int y :: .int x :: st) := by
  obtain ⟨p, l, e, R, s, m, args, below, meth, c, D, cy, base, eD, nL, Q⟩ := X
  obtain ⟨hx, hb, hml, hown, hlk, hgs, hbs, hst⟩ := g
  exact fun H locs ls hr hS hl => lv_icmp_le hx hb d ht (fun q => kt q H locs ls hr hS hl) (fun q => kf q H locs ls hr hS hl)
theorem z_ifnull {X : Cx} {cc : ByteArray} {own : String} {M : Mm} {cs sl pc : Nat} {L : List (Nat × Value)} {st : List Value} (g : Gd X cc own) {x : Nat} {off : Int} (d : decode cc pc = .ok (.ifnull off, 3)) (kk : Z X M cs sl (pc + 3) L st) : Z X M cs sl pc L (.ref x :: st) := by
  obtain ⟨p, l, e, R, s, m, args, below, meth, c, D, cy, base, eD, nL, Q⟩ := X
  obtain ⟨hx, hb, hml, hown, hlk, hgs, hbs, hst⟩ := g
  exact fun H locs ls hr hS hl => lv_ifnull hx hb d (kk H locs ls hr hS hl)
theorem z_ifnullN {X : Cx} {cc : ByteArray} {own : String} {M : Mm} {cs sl pc : Nat} {L : List (Nat × Value)} {st : List Value} (g : Gd X cc own) {off : Int} {tgt : Nat} (d : decode cc pc = .ok (.ifnull off, 3)) (ht : (pc : Int) + off = (tgt : Int)) (kk : Z X M cs sl tgt L st) : Z X M cs sl pc L (.null :: st) := by
  obtain ⟨p, l, e, R, s, m, args, below, meth, c, D, cy, base, eD, nL, Q⟩ := X
  obtain ⟨hx, hb, hml, hown, hlk, hgs, hbs, hst⟩ := g
  exact fun H locs ls hr hS hl => lv_ifnullN hx hb d ht (kk H locs ls hr hS hl)
theorem z_ifnonnull {X : Cx} {cc : ByteArray} {own : String} {M : Mm} {cs sl pc : Nat} {L : List (Nat × Value)} {st : List Value} (g : Gd X cc own) {x : Nat} {off : Int} {tgt : Nat} (d : decode cc pc = .ok (.ifnonnull off, 3)) (ht : (pc : Int) + off = (tgt : Int)) (kk : Z X M cs sl tgt L st) : Z X M cs sl pc L (.ref x :: st) := by
  obtain ⟨p, l, e, R, s, m, args, below, meth, c, D, cy, base, eD, nL, Q⟩ := X
  obtain ⟨hx, hb, hml, hown, hlk, hgs, hbs, hst⟩ := g
  exact fun H locs ls hr hS hl => lv_ifnonnull hx hb d ht (kk H locs ls hr hS hl)
theorem z_ifnonnullN {X : Cx} {cc : ByteArray} {own : String} {M : Mm} {cs sl pc : Nat} {L : List (Nat × Value)} {st : List Value} (g : Gd X cc own) {off : Int} (d : decode cc pc = .ok (.ifnonnull off, 3)) (kk : Z X M cs sl (pc + 3) L st) : Z X M cs sl pc L (.null :: st) := by
  obtain ⟨p, l, e, R, s, m, args, below, meth, c, D, cy, base, eD, nL, Q⟩ := X
  obtain ⟨hx, hb, hml, hown, hlk, hgs, hbs, hst⟩ := g
  exact fun H locs ls hr hS hl => lv_ifnonnullN hx hb d (kk H locs ls hr hS hl)
theorem z_acmp_eq {X : Cx} {cc : ByteArray} {own : String} {M : Mm} {cs sl pc : Nat} {L : List (Nat × Value)} {st : List Value} (g : Gd X cc own) {x y : Nat} {off : Int} {tgt : Nat} (d : decode cc pc = .ok (.if_acmp .eq off, 3)) (ht : (pc : Int) + off = (tgt : Int)) (kt : (some x) = (some y) → Z X M cs sl tgt L st) (kf : ¬ (some x) = (some y) → Z X M cs sl (pc + 3) L st) : Z X M cs sl pc L (.ref y :: .ref x :: st) := by
  obtain ⟨p, l, e, R, s, m, args, below, meth, c, D, cy, base, eD, nL, Q⟩ := X
  obtain ⟨hx, hb, hml, hown, hlk, hgs, hbs, hst⟩ := g
  exact fun H locs ls hr hS hl => lv_acmp_eq (rx := some x) (ry := some y) hx hb d ht (fun q => kt q H locs ls hr hS hl) (fun q => kf q H locs ls hr hS hl)
theorem z_acmp_ne {X : Cx} {cc : ByteArray} {own : String} {M : Mm} {cs sl pc : Nat} {L : List (Nat × Value)} {st : List Value} (g : Gd X cc own) {x y : Nat} {off : Int} {tgt : Nat} (d : decode cc pc = .ok (.if_acmp .ne off, 3)) (ht : (pc : Int) + off = (tgt : Int)) (kt : ¬ (some x) = (some y) → Z X M cs sl tgt L st) (kf : (some x) = (some y) → Z X M cs sl (pc + 3) L st) : Z X M cs sl pc L (.ref y :: .ref x :: st) := by
  obtain ⟨p, l, e, R, s, m, args, below, meth, c, D, cy, base, eD, nL, Q⟩ := X
  obtain ⟨hx, hb, hml, hown, hlk, hgs, hbs, hst⟩ := g
  exact fun H locs ls hr hS hl => lv_acmp_ne (rx := some x) (ry := some y) hx hb d ht (fun q => kt q H locs ls hr hS hl) (fun q => kf q H locs ls hr hS hl)
theorem z_tabIn {X : Cx} {cc : ByteArray} {own : String} {M : Mm} {cs sl pc : Nat} {L : List (Nat × Value)} {st : List Value} (g : Gd X cc own) {dflt lo hi : Int} {offs : Array Int} {len : Nat} {x : Int32} {off : Int} {tgt : Nat} (d : decode cc pc = .ok (.tableswitch dflt lo hi offs, len)) (h1 : ¬ x.toInt < lo) (h2 : ¬ hi < x.toInt) (ho : offs[(x.toInt - lo).toNat]? = some off) (ht : (pc : Int) + off = (tgt : Int)) (kk : Z X M cs sl tgt L st) : Z X M cs sl pc L (.int x :: st) := by
  obtain ⟨p, l, e, R, s, m, args, below, meth, c, D, cy, base, eD, nL, Q⟩ := X
  obtain ⟨hx, hb, hml, hown, hlk, hgs, hbs, hst⟩ := g
  exact fun H locs ls hr hS hl => lv_tableIn hx hb d h1 h2 ho ht (kk H locs ls hr hS hl)
theorem z_tabOut {X : Cx} {cc : ByteArray} {own : String} {M : Mm} {cs sl pc : Nat} {L : List (Nat × Value)} {st : List Value} (g : Gd X cc own) {dflt lo hi : Int} {offs : Array Int} {len : Nat} {x : Int32} {tgt : Nat} (d : decode cc pc = .ok (.tableswitch dflt lo hi offs, len)) (h1 : x.toInt < lo ∨ hi < x.toInt) (ht : (pc : Int) + dflt = (tgt : Int)) (kk : Z X M cs sl tgt L st) : Z X M cs sl pc L (.int x :: st) := by
  obtain ⟨p, l, e, R, s, m, args, below, meth, c, D, cy, base, eD, nL, Q⟩ := X
  obtain ⟨hx, hb, hml, hown, hlk, hgs, hbs, hst⟩ := g
  exact fun H locs ls hr hS hl => lv_tableOut hx hb d h1 ht (kk H locs ls hr hS hl)
