theorem mth_min1 : Cond.static Lib.Math.min.name ∈ lw_tbl := (mT 152 (by decide +kernel))
theorem mth_min2 : Cond.code Lib.Math.min.name Lib.Math.min.code 2 (some .int) ∈ lw_tbl := (mT 153 (by decide +kernel))
theorem mth_3 : Cond.initialized "java/lang/Math" ∈ lw_tbl := (mT 8 (by decide +kernel))
theorem z_mmin {X : Cx} {cc : ByteArray} {own : String} {M : Mm} {cs sl pc : Nat} {L : List (Nat × Value)} {st : List Value} (g : Gd X cc own) {idx : Nat} {x y : Int32} (w : Cond.methodLink own idx Lib.Math.min.name ∈ lw_tbl) (hf : 1 ≤ (xR X).frames) (hlo : (st.map fun v => v.category).sum + 13 ≤ (xR X).locals) (hc : cs ≤ (xR X).cells) (hs : sl ≤ (xR X).slots) (d : decode cc pc = .ok (.invokestatic idx, 3)) (kk : Z X M cs sl (pc + 3) L (.int (if y < x then y else x) :: st)) : Z X M cs sl pc L (.int y :: .int x :: st) := by
  obtain ⟨p, l, e, R, s, m, args, below, meth, c, D, cy, base, eD, nL, Q⟩ := X
  obtain ⟨hx, hb, hml, hown, hlk, hgs, hbs, hst⟩ := g
  exact fun H locs ls hr hS hl => va_mmin hx hb (hml.trans hl.1.symm) hown (hgs.2.1.use w rfl) (hgs.2.1.use mth_min1 rfl) (hgs.2.1.use mth_3 rfl) (hgs.2.1.use mth_min2 rfl) hf hlo hc hs d (kk H locs ls hr hS hl)
theorem mth_max1 : Cond.static Lib.Math.max.name ∈ lw_tbl := (mT 115 (by decide +kernel))
theorem mth_max2 : Cond.code Lib.Math.max.name Lib.Math.max.code 2 (some .int) ∈ lw_tbl := (mT 116 (by decide +kernel))
theorem z_mmax {X : Cx} {cc : ByteArray} {own : String} {M : Mm} {cs sl pc : Nat} {L : List (Nat × Value)} {st : List Value} (g : Gd X cc own) {idx : Nat} {x y : Int32} (w : Cond.methodLink own idx Lib.Math.max.name ∈ lw_tbl) (hf : 1 ≤ (xR X).frames) (hlo : (st.map fun v => v.category).sum + 13 ≤ (xR X).locals) (hc : cs ≤ (xR X).cells) (hs : sl ≤ (xR X).slots) (d : decode cc pc = .ok (.invokestatic idx, 3)) (kk : Z X M cs sl (pc + 3) L (.int (if x < y then y else x) :: st)) : Z X M cs sl pc L (.int y :: .int x :: st) := by
  obtain ⟨p, l, e, R, s, m, args, below, meth, c, D, cy, base, eD, nL, Q⟩ := X
  obtain ⟨hx, hb, hml, hown, hlk, hgs, hbs, hst⟩ := g
  exact fun H locs ls hr hS hl => va_mmax hx hb (hml.trans hl.1.symm) hown (hgs.2.1.use w rfl) (hgs.2.1.use mth_max1 rfl) (hgs.2.1.use mth_3 rfl) (hgs.2.1.use mth_max2 rfl) hf hlo hc hs d (kk H locs ls hr hS hl)
theorem mth_abs1 : Cond.static Lib.Math.abs.name ∈ lw_tbl := (mT 1147 (by decide +kernel))
theorem mth_abs2 : Cond.code Lib.Math.abs.name Lib.Math.abs.code 1 (some .int) ∈ lw_tbl := (mT 1148 (by decide +kernel))
theorem z_mabs {X : Cx} {cc : ByteArray} {own : String} {M : Mm} {cs sl pc : Nat} {L : List (Nat × Value)} {st : List Value} (g : Gd X cc own) {idx : Nat} {x : Int32} (w : Cond.methodLink own idx Lib.Math.abs.name ∈ lw_tbl) (hf : 1 ≤ (xR X).frames) (hlo : (st.map fun v => v.category).sum + 13 ≤ (xR X).locals) (hc : cs ≤ (xR X).cells) (hs : sl ≤ (xR X).slots) (d : decode cc pc = .ok (.invokestatic idx, 3)) (kk : Z X M cs sl (pc + 3) L (.int (if 0 ≤ x then x else 0 - x) :: st)) : Z X M cs sl pc L (.int x :: st) := by
  obtain ⟨p, l, e, R, s, m, args, below, meth, c, D, cy, base, eD, nL, Q⟩ := X
  obtain ⟨hx, hb, hml, hown, hlk, hgs, hbs, hst⟩ := g
  exact fun H locs ls hr hS hl => va_mabs hx hb (hml.trans hl.1.symm) hown (hgs.2.1.use w rfl) (hgs.2.1.use mth_abs1 rfl) (hgs.2.1.use mth_3 rfl) (hgs.2.1.use mth_abs2 rfl) hf hlo hc hs d (kk H locs ls hr hS hl)
theorem ml_X10_362 : Cond.methodLink RX10 362 Lib.Math.abs.name ∈ lw_tbl := (mT 1146 (by decide +kernel))
theorem ml_X10_406 : Cond.methodLink RX10 406 Lib.Math.min.name ∈ lw_tbl := (mT 1138 (by decide +kernel))
theorem ml_X3_90 : Cond.methodLink RX3 90 Lib.Math.min.name ∈ lw_tbl := (mT 446 (by decide +kernel))
theorem ml_Jx4a65c_79 : Cond.methodLink RJx4a65c 79 Lib.Math.max.name ∈ lw_tbl := (mT 157 (by decide +kernel))
theorem ml_J7_304 : Cond.methodLink RJ7 304 Lib.Math.min.name ∈ lw_tbl := (mT 151 (by decide +kernel))
theorem ml_J8_194 : Cond.methodLink RJ8 194 Lib.Math.max.name ∈ lw_tbl := (mT 114 (by decide +kernel))
theorem cl_X10_7 : Cond.classLink RX10 7 "java/util/ArrayList" ∈ lw_tbl := (mT 42 (by decide +kernel))
theorem cl_X10_31 : Cond.classLink RX10 31 "NameLand$Assignments" ∈ lw_tbl := (mT 68 (by decide +kernel))
theorem cl_X10_52 : Cond.classLink RX10 52 "NameLand$Table" ∈ lw_tbl := (mT 85 (by decide +kernel))
theorem cl_X10_74 : Cond.classLink RX10 74 "NameLand$Feature" ∈ lw_tbl := (mT 303 (by decide +kernel))
theorem cl_X10_161 : Cond.classLink RX10 161 "NameLand$Name" ∈ lw_tbl := (mT 615 (by decide +kernel))
theorem cl_X10_172 : Cond.classLink RX10 172 "NameLand$Law" ∈ lw_tbl := (mT 476 (by decide +kernel))
theorem cl_X10_189 : Cond.classLink RX10 189 "NameLand$Exemption" ∈ lw_tbl := (mT 561 (by decide +kernel))
theorem cl_X10_197 : Cond.classLink RX10 197 "NameLand$Petition" ∈ lw_tbl := (mT 946 (by decide +kernel))
theorem cl_X10_305 : Cond.classLink RX10 305 "NameLand$Reading" ∈ lw_tbl := (mT 1103 (by decide +kernel))
theorem cl_X10_327 : Cond.classLink RX10 327 "java/lang/IndexOutOfBoundsException" ∈ lw_tbl := (mT 518 (by decide +kernel))
theorem cl_X10_350 : Cond.classLink RX10 350 "java/lang/IllegalArgumentException" ∈ lw_tbl := (mT 212 (by decide +kernel))
theorem cl_X10_355 : Cond.classLink RX10 355 "java/lang/IllegalStateException" ∈ lw_tbl := (mT 287 (by decide +kernel))
theorem cl_X3_9 : Cond.classLink RX3 9 "NameLand$History" ∈ lw_tbl := (mT 309 (by decide +kernel))
theorem cl_X3_21 : Cond.classLink RX3 21 "java/util/ArrayList" ∈ lw_tbl := (mT 321 (by decide +kernel))
theorem cl_X3_67 : Cond.classLink RX3 67 "NameLand$Name" ∈ lw_tbl := (mT 464 (by decide +kernel))
theorem cl_X3_83 : Cond.classLink RX3 83 "NameLand$Exemption" ∈ lw_tbl := (mT 474 (by decide +kernel))
theorem cl_X4_9 : Cond.classLink RX4 9 "java/util/ArrayList" ∈ lw_tbl := (mT 315 (by decide +kernel))
theorem cl_X4_22 : Cond.classLink RX4 22 "NameLand$Entry" ∈ lw_tbl := (mT 387 (by decide +kernel))
theorem cl_J4_18 : Cond.classLink RJ4 18 "java/lang/String" ∈ lw_tbl := (mT 866 (by decide +kernel))
theorem cl_Jx4a65c_7 : Cond.classLink RJx4a65c 7 "java/lang/Object" ∈ lw_tbl := (mT 158 (by decide +kernel))
theorem cl_Jx4a65c_20 : Cond.classLink RJx4a65c 20 "java/lang/StringBuilder" ∈ lw_tbl := (mT 699 (by decide +kernel))
theorem cl_Jx4a65c_187 : Cond.classLink RJx4a65c 187 "java/lang/IndexOutOfBoundsException" ∈ lw_tbl := (mT 694 (by decide +kernel))
theorem cl_J7_2 : Cond.classLink RJ7 2 "java/lang/Object" ∈ lw_tbl := (mT 150 (by decide +kernel))
theorem cl_J7_43 : Cond.classLink RJ7 43 "java/lang/IllegalArgumentException" ∈ lw_tbl := (mT 898 (by decide +kernel))
theorem cl_J7_45 : Cond.classLink RJ7 45 "java/lang/StringBuilder" ∈ lw_tbl := (mT 899 (by decide +kernel))
theorem cl_J7_110 : Cond.classLink RJ7 110 "[Ljava/lang/Object;" ∈ lw_tbl := (mT 148 (by decide +kernel))
theorem cl_J7_311 : Cond.classLink RJ7 311 "[B" ∈ lw_tbl := (mT 761 (by decide +kernel))
theorem z_cast {X : Cx} {cc : ByteArray} {own : String} {M : Mm} {cs sl pc : Nat} {L : List (Nat × Value)} {st : List Value} (g : Gd X cc own) {idx b a : Nat} {C : String} {T : u_T} {N : Nat} (w : Cond.classLink own idx C ∈ lw_tbl) (hcl : vwCl[cix b]? = some (C, T, N)) (hk : kd M a % 1000 = b) (hb : b ≠ 0 ∧ b < 100) (d : decode cc pc = .ok (.checkcast idx, 3)) (kk : Z X M cs sl (pc + 3) L (.ref a :: st)) : Z X M cs sl pc L (.ref a :: st) := by
  obtain ⟨p, l, e, R, s, m, args, below, meth, c, D, cy, base, eD, nL, Q⟩ := X
  obtain ⟨hx, hb', hml, hown, hlk, hgs, hbs, hst⟩ := g
  exact fun H locs ls hr hS hl => va_castS hx hb' hown (hgs.2.1.use w rfl) (hgs.1.1 _ _ hcl).2 (z_recv hgs hr hk hb hcl) d (kk H locs ls hr hS hl)
theorem casO : ∀ b, 1 ≤ b → b ≤ 11 → ∃ (C : String) (T : u_T) (N : Nat), vwCl[cix b]? = some (C, T, N) ∧ Cond.castable C "java/lang/Object" ∈ lw_tbl := by
  intro b h1 h2
  match b, h1, h2 with
  | 1, _, _ => exact ⟨RX0, TX0, 3, rfl, (mT 1259 (by decide +kernel))⟩
  | 2, _, _ => exact ⟨RX1, TX1, 3, rfl, (mT 1265 (by decide +kernel))⟩
  | 3, _, _ => exact ⟨RX2, TX2, 3, rfl, (mT 1267 (by decide +kernel))⟩
  | 4, _, _ => exact ⟨RX3, TX3, 15, rfl, (mT 1263 (by decide +kernel))⟩
  | 5, _, _ => exact ⟨RX4, TX4, 1, rfl, (mT 1264 (by decide +kernel))⟩
  | 6, _, _ => exact ⟨RX5, TX5, 6, rfl, (mT 1269 (by decide +kernel))⟩
  | 7, _, _ => exact ⟨RX6, TX6, 6, rfl, (mT 1268 (by decide +kernel))⟩
  | 8, _, _ => exact ⟨RX7, TX7, 10, rfl, (mT 1272 (by decide +kernel))⟩
  | 9, _, _ => exact ⟨RX8, TX8, 3, rfl, (mT 1273 (by decide +kernel))⟩
  | 10, _, _ => exact ⟨RX9, TX9, 1, rfl, (mT 1260 (by decide +kernel))⟩
  | 11, _, _ => exact ⟨RX10, TX10, 14, rfl, (mT 1257 (by decide +kernel))⟩
  | n + 12, _, h => omega
theorem z_any {D : va_G} {cy : Nat → ClassId} {base eD : Nat} {s : State} {M : Mm} {H : Heap} (hgs : GS D cy base eD s s.heap) (hr : rl D cy base eD M H) {v : Nat} (h1 : 1 ≤ kd M v % 1000) (h2 : kd M v % 1000 ≤ 11) : va_Any "java/lang/Object" s H v := by
  obtain ⟨C, T, N, hcl, hca⟩ := casO _ h1 h2
  obtain ⟨cell, g1, g2, g3⟩ := z_recv hgs hr (b := kd M v % 1000) rfl ⟨by omega, by omega⟩ hcl
  obtain ⟨c0, t0, f1, f2, f3⟩ := Cond.castable_spec (hgs.2.1.use (args := #[]) hca rfl)
  cases g3.symm.trans f1
  obtain ⟨kC, hkC, -⟩ := Vm.findClass_spec f1
  exact ⟨cell, g1, g2, ⟨kC, hkC⟩, fun comp hcomp => by cases f2.symm.trans hcomp; exact f3⟩
set_option maxHeartbeats 4000000 in
theorem z_throw {X : Cx} {cc : ByteArray} {M : Mm} {cs sl pc mc ms : Nat} {L : List (Nat × Value)} {ret : Option FieldType} {Po : Option Value → Mm → Prop} {Px : String → Mm → Prop} (g : Gd X cc RX10) (r : Rt X ret mc ms Po Px) (hno : noH X) {ik is ic : Nat} {cls text : String} (names : List String) (hcls : Bundle.fit cls = true) (hnames : ∀ n ∈ names, Bundle.fit n = true)
    (w1 : Cond.classLink RX10 ik cls ∈ lw_tbl) (w2 : Cond.initialized cls ∈ lw_tbl) (hs : (is, text) ∈ zstr) (hat : ∀ w ∈ vx_atS RX10 ic cls names, w ∈ lw_tbl ∧ okw w = true) (hgood : ∀ w ∈ Cond.classLink RX10 ik cls :: Cond.initialized cls :: vx_atS RX10 ic cls names, vx_ot w = true)
    (d0 : decode cc pc = .ok (.new ik, 3)) (d3 : decode cc (pc + 3) = .ok (.dup, 1)) (d4 : decode cc (pc + 4) = .ok (.ldc_w is, 3)) (d7 : decode cc (pc + 7) = .ok (.invokespecial ic, 3)) (d10 : decode cc (pc + 10) = .ok (.athrow, 1))
    (hRf : names.length + 3 < (xR X).frames) (hRl : 13 * (names.length + 1) + 43 ≤ (xR X).locals) (hRc : cs + 1 ≤ (xR X).cells) (hRs : sl + 6 ≤ (xR X).slots) (hc : cs + 1 ≤ mc) (hss : sl + 6 ≤ ms) (hx : Px cls M) : Z X M cs sl pc L [] := by
  obtain ⟨p, l, e, R, s, m, args, below, meth, c, D, cy, base, eD, nL, Q⟩ := X
  obtain ⟨hx', hb', hml, hown, hlk, hgs, hbs, htr⟩ := g
  obtain ⟨rfl, hr'⟩ := r
  intro H locs ls hr hS hl
  obtain ⟨sa, hsa⟩ := hgs.2.2.2.2.2.1 _ hs
  refine vx_throwSW (names := names) (A := fun q => base ≤ q) hx' hb' htr hown hcls hnames (hgs.2.1.use w1 rfl) (hgs.2.1.use w2 rfl) hsa (fun w hw => hgs.2.1.use (hat w hw).1 (hat w hw).2) hgood hgs.2.2.2.1 hgs.2.2.2.2.1 hS (hl.1.trans hml.symm) d0 d3 d4 d7 d10 (fun x hx => (hno x hx).elim) hRf (by show 0 + (13 * (names.length + 1) + 43) ≤ R.locals; have h9 : 13 * (names.length + 1) + 43 ≤ R.locals := hRl; omega) hRc hRs hlk (fun t ht h1 h2 => ?_) hS.2.2 hc hss
  have hF : va_F (fun q => base ≤ q) s t := ⟨Nat.le_trans hS.1 h1, fun q q1 q2 => (h2 q (Nat.lt_of_lt_of_le q1 hS.1)).trans (hS.2.1 q q1 q2)⟩
  refine ⟨⟨M, hx, ?_⟩, hF⟩
  obtain ⟨ed, g1, g2, g3, g4, g5, g6⟩ := hr
  have hr0 : rl D cy base eD M H := ⟨ed, g1, g2, g3, g4, g5, g6⟩
  refine ⟨ed, fun a ha => ⟨okc_kept (g1 a ha).1 (h2 a (rl_lt hr0 ha)) (fun z => ?_), (g1 a ha).2⟩, g2, g3, g4, g5.kept (h2 eD g5.lt), g6⟩
  obtain ⟨mc9, n9, f9, -, q9, -⟩ := (g1 a ha).1.2.2.2.2 z
  rcases q9 with q9 | q9
  · rw [q9]; exact h2 _ g5.lt
  · exact h2 _ q9.lt
theorem thr_IAE : ∀ w ∈ vx_atS RX10 354 "java/lang/IllegalArgumentException" ["java/lang/RuntimeException", "java/lang/Exception"], w ∈ lw_tbl ∧ okw w = true := by decide +kernel
theorem thr_ISE : ∀ w ∈ vx_atS RX10 359 "java/lang/IllegalStateException" ["java/lang/RuntimeException", "java/lang/Exception"], w ∈ lw_tbl ∧ okw w = true := by decide +kernel
theorem thr_IOE : ∀ w ∈ vx_atS RX10 331 "java/lang/IndexOutOfBoundsException" ["java/lang/RuntimeException", "java/lang/Exception"], w ∈ lw_tbl ∧ okw w = true := by decide +kernel
theorem thg_IAE : ∀ w ∈ Cond.classLink RX10 350 "java/lang/IllegalArgumentException" :: Cond.initialized "java/lang/IllegalArgumentException" :: vx_atS RX10 354 "java/lang/IllegalArgumentException" ["java/lang/RuntimeException", "java/lang/Exception"], vx_ot w = true := by decide +kernel
theorem thg_ISE0 : ∀ w ∈ Cond.initialized "java/lang/IllegalStateException" :: vx_atS RX10 359 "java/lang/IllegalStateException" ["java/lang/RuntimeException", "java/lang/Exception"], vx_ot w = true := by decide +kernel
theorem thg_ISE (k : Nat) : ∀ w ∈ Cond.classLink RX10 k "java/lang/IllegalStateException" :: Cond.initialized "java/lang/IllegalStateException" :: vx_atS RX10 359 "java/lang/IllegalStateException" ["java/lang/RuntimeException", "java/lang/Exception"], vx_ot w = true := by
  intro w hw
  rcases List.mem_cons.mp hw with rfl | hw
  · rfl
  · exact thg_ISE0 w hw
theorem thg_IOE0 : ∀ w ∈ Cond.initialized "java/lang/IndexOutOfBoundsException" :: vx_atS RX10 331 "java/lang/IndexOutOfBoundsException" ["java/lang/RuntimeException", "java/lang/Exception"], vx_ot w = true := by decide +kernel
theorem thg_IOE (k : Nat) : ∀ w ∈ Cond.classLink RX10 k "java/lang/IndexOutOfBoundsException" :: Cond.initialized "java/lang/IndexOutOfBoundsException" :: vx_atS RX10 331 "java/lang/IndexOutOfBoundsException" ["java/lang/RuntimeException", "java/lang/Exception"], vx_ot w = true := by
  intro w hw
  rcases List.mem_cons.mp hw with rfl | hw
  · rfl
  · exact thg_IOE0 w hw
