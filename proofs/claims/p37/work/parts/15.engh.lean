def sW (M : Mm) (a : Nat) (f : Nat → Option Nat) : Mm := (M.1, M.2.1, M.2.2.1, up1 M.2.2.2.1 a f, M.2.2.2.2)
theorem kd_sW {M : Mm} {a b : Nat} {f : Nat → Option Nat} : kd (sW M a f) b = kd M b := rfl
theorem fI_sW {M : Mm} {a b j : Nat} {f : Nat → Option Nat} : fI (sW M a f) b j = fI M b j := rfl
theorem fL_sW {M : Mm} {a b j : Nat} {f : Nat → Option Nat} : fL (sW M a f) b j = fL M b j := rfl
theorem ln_sW {M : Mm} {a b : Nat} {f : Nat → Option Nat} : ln (sW M a f) b = ln M b := rfl
theorem fR_sW {M : Mm} {a b j : Nat} {f : Nat → Option Nat} : fR (sW M a f) b j = if b = a then f j else fR M b j := by
  unfold fR sW up1; dsimp only; split <;> rfl
theorem rl_base {D : va_G} {cy : Nat → ClassId} {base eD : Nat} {M : Mm} {H : Heap} (hr : rl D cy base eD M H) {a : Nat} (hka : kd M a ≠ 0) (hro : ¬ ro (kd M a)) : base ≤ a := by
  obtain ⟨ed, h1, -⟩ := hr
  exact (h1 a hka).2.resolve_right hro
theorem rl_fresh {D : va_G} {cy : Nat → ClassId} {base eD : Nat} {M : Mm} {H : Heap} (hr : rl D cy base eD M H) : kd M H.size = 0 := by
  by_cases q : kd M H.size = 0
  · exact q
  · exact absurd (rl_lt hr q) (Nat.lt_irrefl _)
theorem z_aast {X : Cx} {cc : ByteArray} {own : String} {M : Mm} {cs sl pc : Nat} {L : List (Nat × Value)} {st : List Value} (g : Gd X cc own) {a v k : Nat} {i : Int32} (hk : kd M a % 1000 = k) (hkk : 300 ≤ k ∧ k < 390) (hin : vp_in i (ln M a)) (hv1 : 1 ≤ kd M v % 1000) (hv2 : kd M v % 1000 ≤ 11) (d : decode cc pc = .ok (.aastore, 1)) (kk : Z X (sR M a i.toNatClampNeg (some v)) cs sl (pc + 1) L st) : Z X M cs sl pc L (.ref v :: .int i :: .ref a :: st) := by
  obtain ⟨p, l, e, R, s, m, args, below, meth, c, D, cy, base, eD, nL, Q⟩ := X
  obtain ⟨hx, hb, hml, hown, hlk, hgs, hbs, hst⟩ := g
  intro H locs ls hr hS hl
  have h1 : 300 ≤ kd M a % 1000 := by omega
  have hka : kd M a ≠ 0 := fun e => by rw [e] at h1; simp at h1
  have hro : ¬ ro (kd M a) := fun z => by unfold ro at z; omega
  have hbase := rl_base hr hka hro
  have hlt : i.toNatClampNeg < ln M a := Nat.not_le.mp fun q => hin (Or.inr q)
  have h0 : ¬ i < 0 := fun q => hin (Or.inl q)
  obtain ⟨cellV, g1, g3, ⟨kC, hkC⟩, hasg⟩ := z_any hgs hr hv1 hv2
  obtain ⟨kA, comp, k1, k2, k3, -⟩ := (hgs.1.2 1 _ rfl).2
  obtain ⟨kE, hkE, -⟩ := Vm.findClass_spec k3
  refine W.aast hx hb (rl_arR hr h1 (by omega)) (fun q h => by cases h) (fun h => by cases h) k1 k2 rfl hkE ⟨h0, by show _ < (arrV _ _ _).slots.size; rw [arrV_size]; exact hlt⟩ g1 (fun q h => by rw [h] at g3; cases g3) hkC (hasg _ k3) rfl rfl d fun H1 e z oq => ?_
  refine kk H1 _ ls (rl_set hr hka (by omega) hro oq (fun ed ho => ?_) (fun _ => rfl) (fun _ => rfl) (fun b hb => ⟨rfl, rfl, (up2_na _ _ hb).symm⟩)) (hS.put z oq hbase) hl
  refine ⟨fun y => by rw [kd_sR] at y; omega, fun y => by rw [kd_sR]; omega, fun y => by rw [kd_sR]; omega, fun _ _ => ?_, fun y => by rw [kd_sR] at y; omega⟩
  show H1[a]? = some (vp_cell _ _)
  rw [e, vp_cell_q, vp_cell_q, arrV_store]
  congr 2
  funext q
  show updV (fun j => va_rf (fR M a j)) i.toNatClampNeg (.ref v) q = va_rf (fR (sR M a i.toNatClampNeg (some v)) a q)
  rw [fR_sR]
  by_cases hq : q = i.toNatClampNeg
  · subst hq; simp [updV, va_rf]
  · simp [updV, hq]
theorem z_aastN {X : Cx} {cc : ByteArray} {own : String} {M : Mm} {cs sl pc : Nat} {L : List (Nat × Value)} {st : List Value} (g : Gd X cc own) {a k : Nat} {i : Int32} (hk : kd M a % 1000 = k) (hkk : 300 ≤ k ∧ k < 390) (hin : vp_in i (ln M a)) (d : decode cc pc = .ok (.aastore, 1)) (kk : Z X (sR M a i.toNatClampNeg none) cs sl (pc + 1) L st) : Z X M cs sl pc L (.null :: .int i :: .ref a :: st) := by
  obtain ⟨p, l, e, R, s, m, args, below, meth, c, D, cy, base, eD, nL, Q⟩ := X
  obtain ⟨hx, hb, hml, hown, hlk, hgs, hbs, hst⟩ := g
  intro H locs ls hr hS hl
  have h1 : 300 ≤ kd M a % 1000 := by omega
  have hka : kd M a ≠ 0 := fun e => by rw [e] at h1; simp at h1
  have hro : ¬ ro (kd M a) := fun z => by unfold ro at z; omega
  have hbase := rl_base hr hka hro
  refine va_WaastN (C := "java/lang/Object") hx hb (rl_arR hr h1 (by omega)) ((hgs.1.2 1 _ rfl).1 (ln M a) (fun j => va_rf (fR M a j))) (fun h => by cases h) (by show ¬ (i < 0 ∨ (arrV _ _ _).slots.size ≤ _); rw [arrV_size]; exact hin) rfl rfl d fun H1 e z oq => ?_
  refine kk H1 _ ls (rl_set hr hka (by omega) hro oq (fun ed ho => ?_) (fun _ => rfl) (fun _ => rfl) (fun b hb => ⟨rfl, rfl, (up2_na _ _ hb).symm⟩)) (hS.put z oq hbase) hl
  refine ⟨fun y => by rw [kd_sR] at y; omega, fun y => by rw [kd_sR]; omega, fun y => by rw [kd_sR]; omega, fun _ _ => ?_, fun y => by rw [kd_sR] at y; omega⟩
  show H1[a]? = some (vp_cell _ _)
  rw [e, vp_cell_q, vp_cell_q, arrV_store]
  congr 2
  funext q
  show updV (fun j => va_rf (fR M a j)) i.toNatClampNeg .null q = va_rf (fR (sR M a i.toNatClampNeg none) a q)
  rw [fR_sR]
  by_cases hq : q = i.toNatClampNeg
  · subst hq; simp [updV, va_rf]
  · simp [updV, hq]
theorem z_anew {X : Cx} {cc : ByteArray} {own : String} {M : Mm} {cs sl pc : Nat} {L : List (Nat × Value)} {st : List Value} (g : Gd X cc own) {idx : Nat} {n : Int32} {N : Nat} (w : Cond.classLink own idx "java/lang/Object" ∈ lw_tbl) (hn : ¬ n < 0) (hN : n.toNatClampNeg = N) (hN2 : N ≤ 1000000) (hc : cs + 1 ≤ (xR X).cells) (hs : sl + N ≤ (xR X).slots) (d : decode cc pc = .ok (.anewarray idx, 3))
    (kk : ∀ a : Nat, kd M a = 0 → Z X (al M a 300 N) (cs + 1) (sl + N) (pc + 3) L (.ref a :: st)) : Z X M cs sl pc L (.int n :: st) := by
  obtain ⟨p, l, e, R, s, m, args, below, meth, c, D, cy, base, eD, nL, Q⟩ := X
  obtain ⟨hx, hb, hml, hown, hlk, hgs, hbs, hst⟩ := g
  intro H locs ls hr hS hl
  subst hN
  refine W.anew hx hb hown (hgs.2.1.use w rfl) (va_AO.use hgs.2.2.2.2.2.2.2.1) rfl d rfl hn (by omega) hc hs fun cA kA comp f1 f2 f3 f4 => ?_
  have hcA : cA = cy 2 := by
    obtain ⟨-, -, -, -, -, h4⟩ := (hgs.1.2 1 _ rfl).2
    exact Option.some.inj (f1.symm.trans h4)
  subst hcA
  generalize hH1 : H.push ({ cls := cy 2, slots := Array.replicate n.toNatClampNeg .null, vm := .none } : Cell) = H1
  have z1 : H1.size = H.size + 1 := by rw [← hH1, Array.size_push]
  have e1 : H1[H.size]? = some (arrV (cy 2) n.toNatClampNeg (fun _ => .null)) := by rw [← hH1, Array.getElem?_push_size, ← arrV_new]
  have o1 : ∀ q : Nat, q < H.size → H1[q]? = H[q]? := fun q hq => by rw [← hH1, Array.getElem?_push, if_neg (Nat.ne_of_lt hq)]
  refine kk H.size (rl_fresh hr) H1 locs ls (rl_new hr (by decide) (Nat.le_trans hbs hS.1) o1 (fun ed => ?_)) ⟨Nat.le_trans hS.1 (by omega), fun x q1 q2 => (o1 x (Nat.lt_of_lt_of_le q1 hS.1)).trans (hS.2.1 x q1 q2), hS.2.2⟩ hl
  have hkk : kd (al M H.size 300 n.toNatClampNeg) H.size = 300 := by rw [kd_al, if_pos rfl]
  refine ⟨fun y => by rw [hkk] at y; omega, fun _ y => by rw [hkk] at y; omega, fun _ y => by rw [hkk] at y; omega, fun _ _ => ?_, fun y => by rw [hkk] at y; omega⟩
  show H1[H.size]? = some (vp_cell _ _)
  rw [e1, vp_cell_q, ln_al, if_pos rfl]
  congr 2
  funext q
  show _ = va_rf (fR (al M H.size 300 n.toNatClampNeg) H.size q)
  rw [fR_al, if_pos rfl]
  rfl
set_option maxHeartbeats 4000000 in
theorem z_acopy {X : Cx} {cc : ByteArray} {own : String} {M : Mm} {cs sl pc : Nat} {L : List (Nat × Value)} {st : List Value} (g : Gd X cc own) {idx a0 a : Nat} {sp dp n : Int32} (w1 : Cond.methodLink own idx arraycopyName ∈ lw_tbl) (w2 : Cond.native arraycopyName ∈ lw_tbl) (w3 : Cond.static arraycopyName ∈ lw_tbl) (w4 : Cond.initialized "java/lang/System" ∈ lw_tbl)
    {k0 k1 : Nat} (hk0 : kd M a0 % 1000 = k0) (hk0' : 300 ≤ k0 ∧ k0 < 390) (hk1 : kd M a % 1000 = k1) (hk1' : 300 ≤ k1 ∧ k1 < 390)
    (h1 : ¬ sp < 0) (h2 : ¬ dp < 0) (h3 : ¬ n < 0) (h4 : sp.toNatClampNeg + n.toNatClampNeg ≤ ln M a0) (h5 : dp.toNatClampNeg + n.toNatClampNeg ≤ ln M a) (hel : ∀ i : Nat, i < n.toNatClampNeg → ∀ y : Nat, fR M a0 (sp.toNatClampNeg + i) = some y → 1 ≤ kd M y % 1000 ∧ kd M y % 1000 ≤ 11)
    (hf : 1 ≤ (xR X).frames) (hlo : (st.map fun v => v.category).sum + (nativeFrameWords "java/lang/System" "arraycopy" 5 + 11) ≤ (xR X).locals) (d : decode cc pc = .ok (.invokestatic idx, 3))
    (kk : Z X (sW M a (va_cpy (fR M a0) (fR M a) sp.toNatClampNeg dp.toNatClampNeg n.toNatClampNeg)) cs sl (pc + 3) L st) : Z X M cs sl pc L (.int n :: .int dp :: .ref a :: .int sp :: .ref a0 :: st) := by
  obtain ⟨p, l, e, R, s, m, args, below, meth, c, D, cy, base, eD, nL, Q⟩ := X
  obtain ⟨hx, hb, hml, hown, hlk, hgs, hbs, hst⟩ := g
  intro H locs ls hr hS hl
  have hka : kd M a ≠ 0 := fun e => by rw [e] at hk1; omega
  have hro : ¬ ro (kd M a) := fun z => by unfold ro at z; omega
  have hbase := rl_base hr hka hro
  have nn : ∀ z : Int32, ¬ z < 0 → z.toInt = (z.toNatClampNeg : Int) := by
    intro z hz
    have hz0 : (0 : Int) ≤ z.toInt := by
      have := Int32.not_lt.mp hz
      simpa using Int32.le_iff_toInt_le.mp this
    show z.toInt = ((z.toInt.toNat : Nat) : Int)
    omega
  intro T hT X
  have hc0 : H[a0]? = some (vp_cell (cy 2) (ln M a0, .inr (.inr (.inr (.inr (fR M a0)))))) := rl_arR hr (by omega) (by omega)
  have hc1 : H[a]? = some (vp_cell (cy 2) (ln M a, .inr (.inr (.inr (.inr (fR M a)))))) := rl_arR hr (by omega) (by omega)
  obtain ⟨-, kq0, hkq0, cm0, hkk0⟩ := (hgs.1.2 1 _ rfl).1 (ln M a0) (fun j => va_rf (fR M a0 j))
  obtain ⟨-, kq1, hkq1, cm1, hkk1⟩ := (hgs.1.2 1 _ rfl).1 (ln M a) (fun j => va_rf (fR M a j))
  obtain ⟨vm', X', step⟩ := X.arraycopy hx hown (hgs.2.1.use w1 rfl) (hgs.2.1.use w2 rfl) (hgs.2.1.use w3 rfl) (hgs.2.1.use w4 rfl) (src := a0) (dst := a) (cs := vp_cell (cy 2) (ln M a0, .inr (.inr (.inr (.inr (fR M a0)))))) (cd := vp_cell (cy 2) (ln M a, .inr (.inr (.inr (.inr (fR M a)))))) (srcPos := sp) (destPos := dp) (n := n) (by rw [hT]; exact hc0) (by rw [hT]; exact hc1)
    (fun _ h => by cases h) (fun _ h => by cases h) (fun h => by cases h) (fun h => by cases h) hkq0 hkq1 hkk0 hkk1 rfl h1 h2 h3
    (by rw [nn sp h1, nn n h3]; show ¬ _ > ((arrV (cy 2) (ln M a0) (fun j => va_rf (fR M a0 j))).slots.size : Int); rw [arrV_size]; omega)
    (by rw [nn dp h2, nn n h3]; show ¬ _ > ((arrV (cy 2) (ln M a) (fun j => va_rf (fR M a j))).slots.size : Int); rw [arrV_size]; omega)
    (fun vm₁ hal i hi => by
      have e : (vp_cell (cy 2) (ln M a0, .inr (.inr (.inr (.inr (fR M a0)))))).slots.getD (sp.toNatClampNeg + i) .null = va_rf (fR M a0 (sp.toNatClampNeg + i)) := by
        show (arrV (cy 2) (ln M a0) (fun j => va_rf (fR M a0 j))).slots.getD _ _ = _
        rw [Array.getD_eq_getD_getElem?, arrV_read _ _ (by omega)]
        rfl
      rw [e]
      cases hy : fR M a0 (sp.toNatClampNeg + i) with
      | none => exact ⟨rfl, trivial⟩
      | some y =>
        obtain ⟨cellV, g1, g2, ⟨kC, hkC⟩, hasg⟩ := z_any hgs hr (hel i hi y hy).1 (hel i hi y hy).2
        obtain ⟨kA, comp, r1, r2, r3, -⟩ := (hgs.1.2 1 _ rfl).2
        cases hkq1.symm.trans r1
        cases hkk1.symm.trans r2
        obtain ⟨kE, hkE, -⟩ := Vm.findClass_spec r3
        obtain ⟨kC', hkC', -⟩ := hal.2.2 _ _ hkC
        obtain ⟨kE', hkE', -⟩ := hal.2.2 _ _ hkE
        refine ⟨rfl, cellV, (show T.heap[y]? = some cellV by rw [hT]; exact g1), (fun q h => by rw [h] at g2; cases g2), ⟨kC', hkC'⟩, ?_, ?_⟩
        · exact ⟨kE', hkE'⟩
        · show vm₁.assignable _ _ = true
          rw [hal.assignable]
          exact hasg _ r3)
    (g := F0 m pc ls (.int n :: .int dp :: .ref a :: .int sp :: .ref a0 :: st)) rfl (by rw [hml]; exact hl.1) (rest := st) rfl (by rw [hb]; exact d) hf (by show 2 * 0 + _ + _ ≤ _; have h9 : (st.map fun v => v.category).sum + (nativeFrameWords "java/lang/System" "arraycopy" 5 + 11) ≤ R.locals := hlo; omega)
  have e1 : copied (vp_cell (cy 2) (ln M a0, .inr (.inr (.inr (.inr (fR M a0)))))) (vp_cell (cy 2) (ln M a, .inr (.inr (.inr (.inr (fR M a)))))) sp dp n = vp_cell (cy 2) (ln M a, .inr (.inr (.inr (.inr (va_cpy (fR M a0) (fR M a) sp.toNatClampNeg dp.toNatClampNeg n.toNatClampNeg))))) := by
    rw [vp_cell_q, vp_cell_q, vp_cell_q]
    exact va_copied (fun z => va_rf z) (cy 2) (cy 2) (fR M a0) (fR M a) h4
  rw [e1] at X' step
  have hll : a < H.size := (Array.getElem?_eq_some_iff.mp hc1).1
  generalize hcell : vp_cell (cy 2) (ln M a, .inr (.inr (.inr (.inr (va_cpy (fR M a0) (fR M a) sp.toNatClampNeg dp.toNatClampNeg n.toNatClampNeg))))) = cellN at X' step
  have hheap : ((T.setVm vm').setCell a cellN).heap = H.setIfInBounds a cellN := by rw [← hT]; rfl
  have oq : ∀ q : Nat, q ≠ a → (H.setIfInBounds a cellN)[q]? = H[q]? := fun q hq => by simp [Array.getElem?_setIfInBounds, Ne.symm hq]
  have hnew : rl D cy base eD (sW M a (va_cpy (fR M a0) (fR M a) sp.toNatClampNeg dp.toNatClampNeg n.toNatClampNeg)) (H.setIfInBounds a cellN) := by
    refine rl_set hr hka (by omega) hro oq (fun ed ho => ?_) (fun _ => rfl) (fun _ => rfl) (fun b hb => ⟨rfl, rfl, (up1_n _ _ hb).symm⟩)
    refine ⟨fun y => by rw [kd_sW] at y; omega, fun y => by rw [kd_sW]; omega, fun y => by rw [kd_sW]; omega, fun _ _ => ?_, fun y => by rw [kd_sW] at y; omega⟩
    show (H.setIfInBounds a cellN)[a]? = some (vp_cell (cy 2) (ln M a, .inr (.inr (.inr (.inr (fR (sW M a _) a))))))
    rw [show fR (sW M a (va_cpy (fR M a0) (fR M a) sp.toNatClampNeg dp.toNatClampNeg n.toNatClampNeg)) a = va_cpy (fR M a0) (fR M a) sp.toNatClampNeg dp.toNatClampNeg n.toNatClampNeg from up1_s _ _ _, hcell]
    simp [Array.getElem?_setIfInBounds, hll]
  obtain ⟨t, a1, b1⟩ := kk (H.setIfInBounds a cellN) _ ls hnew ⟨by simp; exact hS.1, fun q g1 g2 => by
      rw [oq q (fun e => g2 (by rw [e]; exact hbase))]
      exact hS.2.1 q g1 g2, fun q hq => by
      rcases List.mem_append.mp hq with h | h
      · exact hS.2.2 q h
      · obtain ⟨z, -, hz⟩ := List.mem_map.mp h
        rw [← hz]
        exact hbase⟩ hl _ hheap X'
  exact ⟨t, step t a1, b1⟩
theorem z_gets {X : Cx} {cc : ByteArray} {M : Mm} {cs sl pc : Nat} {L : List (Nat × Value)} {st : List Value} (g : Gd X cc RJx4a65c) {idx : Nat} (w : Cond.fieldLink RJx4a65c idx "java/util/ArrayList" "DEFAULTCAPACITY_EMPTY_ELEMENTDATA" "[Ljava/lang/Object;" ∈ lw_tbl) (d : decode cc pc = .ok (.getstatic idx, 3)) (kk : Z X M cs sl (pc + 3) L (.ref (xE X).2.2.2.2 :: st)) : Z X M cs sl pc L st := by
  obtain ⟨p, l, e, R, s, m, args, below, meth, c, D, cy, base, eD, nL, Q⟩ := X
  obtain ⟨hx, hb, hml, hown, hlk, hgs, hbs, hst⟩ := g
  exact fun H locs ls hr hS hl => va_gets hx hb hgs.2.2.1 hS hown (hgs.2.1.use w rfl) (fun x h => h) d (kk H locs ls hr hS hl)
theorem z_ldcM {X : Cx} {cc : ByteArray} {own : String} {M : Mm} {cs sl pc : Nat} {L : List (Nat × Value)} {st : List Value} (g : Gd X cc own) {idx : Nat} (w : Cond.classLink own idx "[Ljava/lang/Object;" ∈ lw_tbl) (d : decode cc pc = .ok (.ldc idx, 2)) (kk : Z X M cs sl (pc + 2) L (.ref ((xE X).2.2.1 3) :: st)) : Z X M cs sl pc L st := by
  obtain ⟨p, l, e, R, s, m, args, below, meth, c, D, cy, base, eD, nL, Q⟩ := X
  obtain ⟨hx, hb, hml, hown, hlk, hgs, hbs, hst⟩ := g
  exact fun H locs ls hr hS hl => va_ldcM hx hb hown (hgs.2.1.use w rfl) hgs.2.2.2.2.2.2.2.2 d (kk H locs ls hr hS hl)
theorem z_getC {X : Cx} {cc : ByteArray} {own : String} {M : Mm} {cs sl pc : Nat} {L : List (Nat × Value)} {st : List Value} (g : Gd X cc own) {idx a : Nat} (w1 : Cond.methodLink own idx ⟨"java/lang/Object", "getClass", "()Ljava/lang/Class;"⟩ ∈ lw_tbl) (w2 : Cond.declares ⟨"java/lang/Object", "getClass", "()Ljava/lang/Class;"⟩ ∈ lw_tbl) (w3 : Cond.selects "[Ljava/lang/Object;" ⟨"java/lang/Object", "getClass", "()Ljava/lang/Class;"⟩ ⟨"java/lang/Object", "getClass", "()Ljava/lang/Class;"⟩ ∈ lw_tbl) (w4 : Cond.instanceMethod ⟨"java/lang/Object", "getClass", "()Ljava/lang/Class;"⟩ ∈ lw_tbl) (w5 : Cond.native ⟨"java/lang/Object", "getClass", "()Ljava/lang/Class;"⟩ ∈ lw_tbl)
    {k : Nat} (hk : kd M a % 1000 = k) (hkk : 300 ≤ k ∧ k < 390) (hf : 1 ≤ (xR X).frames) (hlo : (st.map fun v => v.category).sum + 14 ≤ (xR X).locals) (d : decode cc pc = .ok (.invokevirtual idx, 3)) (kk : Z X M cs sl (pc + 3) L (.ref ((xE X).2.2.1 3) :: st)) : Z X M cs sl pc L (.ref a :: st) := by
  obtain ⟨p, l, e, R, s, m, args, below, meth, c, D, cy, base, eD, nL, Q⟩ := X
  obtain ⟨hx, hb, hml, hown, hlk, hgs, hbs, hst⟩ := g
  intro H locs ls hr hS hl
  refine va_getC hx hb (hml.trans hl.1.symm) hown (hgs.2.1.use w1 rfl) (hgs.2.1.use w2 rfl) (hgs.2.1.use w3 rfl) (hgs.2.1.use w4 rfl) (hgs.2.1.use w5 rfl) hgs.2.2.2.2.2.2.2.2 ?_ hf hlo d (kk H locs ls hr hS hl)
  exact ⟨_, rl_arR hr (by omega) (by omega), rfl, va_nmO (hgs.1.2 1 _ rfl).2 rfl⟩
