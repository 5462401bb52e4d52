theorem rl_obj {D : va_G} {cy : Nat → ClassId} {base eD : Nat} {M : Mm} {H : Heap} (h : rl D cy base eD M H) {a b : Nat} (hk : kd M a % 1000 = b) (hb0 : b ≠ 0) (hb : b < 100) : va_at D vwCl (a, .inr (cix b, fvs M a 0 (cds b))) H := by
  obtain ⟨ed, h1, -⟩ := h
  subst hk
  exact (h1 a (fun e => hb0 (by rw [e]))).1.1 hb
theorem rl_arI {D : va_G} {cy : Nat → ClassId} {base eD : Nat} {M : Mm} {H : Heap} (h : rl D cy base eD M H) {a : Nat} (h1 : 100 ≤ kd M a % 1000) (h2 : kd M a % 1000 < 200) : va_at D vwCl (a, .inl (cy 0, ln M a, .inl (fI M a))) H := by
  obtain ⟨ed, g1, -⟩ := h
  exact (g1 a (fun e => by rw [e] at h1; simp at h1)).1.2.1 h1 h2
theorem rl_arL {D : va_G} {cy : Nat → ClassId} {base eD : Nat} {M : Mm} {H : Heap} (h : rl D cy base eD M H) {a : Nat} (h1 : 200 ≤ kd M a % 1000) (h2 : kd M a % 1000 < 300) : va_at D vwCl (a, .inl (cy 1, ln M a, .inr (.inl (fL M a)))) H := by
  obtain ⟨ed, g1, -⟩ := h
  exact (g1 a (fun e => by rw [e] at h1; simp at h1)).1.2.2.1 h1 h2
theorem rl_arR {D : va_G} {cy : Nat → ClassId} {base eD : Nat} {M : Mm} {H : Heap} (h : rl D cy base eD M H) {a : Nat} (h1 : 300 ≤ kd M a % 1000) (h2 : kd M a % 1000 < 390) : va_at D vwCl (a, .inl (cy 2, ln M a, .inr (.inr (.inr (.inr (fR M a)))))) H := by
  obtain ⟨ed, g1, -⟩ := h
  exact (g1 a (fun e => by rw [e] at h1; simp at h1)).1.2.2.2.1 h1 h2
theorem va_one {D : va_G} {q : Nat × va_E} {H : Heap} (h : va_at D vwCl q H) : va_P D vwCl [q] H := by
  intro k x hk
  match k, hk with
  | 0, hk => cases hk; exact h
  | k + 1, hk => simp at hk
theorem z_getV {X : Cx} {cc : ByteArray} {own : String} {M : Mm} {cs sl pc : Nat} {L : List (Nat × Value)} {st : List Value} (g : Gd X cc own) {idx b k a t : Nat} (f : FL own idx b k) (hk : kd M a % 1000 = b) (hb : b ≠ 0 ∧ b < 100) (hc : (cds b)[k]? = some t) (d : decode cc pc = .ok (.getfield idx, 3)) (kk : Z X M cs sl (pc + 3) L (fv1 M a k t :: st)) : Z X M cs sl pc L (.ref a :: st) := by
  obtain ⟨p, l, e, R, s, m, args, below, meth, c, D, cy, base, eD, nL, Q⟩ := X
  obtain ⟨hx, hb', hml, hown, hlk, hgs, hbs, hst⟩ := g
  obtain ⟨C, T, N, ref, f1, f2, f3, f4, f5⟩ := f
  intro H locs ls hr hS hl
  have hP := va_one (rl_obj hr hk hb.1 hb.2)
  have hv : (fvs M a 0 (cds b))[k]? = some (fv1 M a k t) := by rw [fvs_get M a (cds b) 0 k t hc, Nat.zero_add]
  have hsame : ∀ x, s.fieldFound? (T k).1 (T k).2.1 (T k).2.2.1 = some x → s.fieldFound? ref (T k).2.1 (T k).2.2.1 = some x := by
    rcases f4 with e4 | e4
    · rw [e4]; exact fun x h => h
    · exact fun x h => u_same (hgs.2.1.use (args := args) e4 rfl) x h
  have hts : ∀ w ∈ u_ws C T N, w.before args s = true := fun w hw => hgs.2.1.use (f2 w hw) (by obtain ⟨j, -, rfl⟩ := List.mem_map.mp hw; unfold u_lay; split <;> rfl)
  rcases f5 with e5 | ⟨host, e5⟩
  · exact va_get hx hb' hts (fun w h => h) hown hgs.1 hP 0 rfl f1 k f3 (hgs.2.1.use e5 rfl) hsame hv d (kk H locs ls hr hS hl)
  · exact va_getN hx hb' hts (fun w h => h) hown hgs.1 hP 0 rfl f1 k f3 (hgs.2.1.use e5 rfl) hsame hv d (kk H locs ls hr hS hl)
theorem z_getI {X : Cx} {cc : ByteArray} {own : String} {M : Mm} {cs sl pc : Nat} {L : List (Nat × Value)} {st : List Value} (g : Gd X cc own) {idx b k a : Nat} (f : FL own idx b k) (hk : kd M a % 1000 = b) (hb : b ≠ 0 ∧ b < 100) (hc : (cds b)[k]? = some 0) (d : decode cc pc = .ok (.getfield idx, 3)) (kk : Z X M cs sl (pc + 3) L (.int (fI M a k) :: st)) : Z X M cs sl pc L (.ref a :: st) := z_getV g f hk hb hc d kk
theorem z_getL {X : Cx} {cc : ByteArray} {own : String} {M : Mm} {cs sl pc : Nat} {L : List (Nat × Value)} {st : List Value} (g : Gd X cc own) {idx b k a : Nat} (f : FL own idx b k) (hk : kd M a % 1000 = b) (hb : b ≠ 0 ∧ b < 100) (hc : (cds b)[k]? = some 1) (d : decode cc pc = .ok (.getfield idx, 3)) (kk : Z X M cs sl (pc + 3) L (.long (fL M a k) :: st)) : Z X M cs sl pc L (.ref a :: st) := z_getV g f hk hb hc d kk
theorem z_getR {X : Cx} {cc : ByteArray} {own : String} {M : Mm} {cs sl pc : Nat} {L : List (Nat × Value)} {st : List Value} (g : Gd X cc own) {idx b k a r : Nat} (f : FL own idx b k) (hk : kd M a % 1000 = b) (hb : b ≠ 0 ∧ b < 100) (hc : (cds b)[k]? = some 2) (hv : fR M a k = some r) (d : decode cc pc = .ok (.getfield idx, 3)) (kk : Z X M cs sl (pc + 3) L (.ref r :: st)) : Z X M cs sl pc L (.ref a :: st) :=
  z_getV g f hk hb hc d (by rw [show fv1 M a k 2 = .ref r by show va_rf (fR M a k) = _; rw [hv]; rfl]; exact kk)
theorem z_getRN {X : Cx} {cc : ByteArray} {own : String} {M : Mm} {cs sl pc : Nat} {L : List (Nat × Value)} {st : List Value} (g : Gd X cc own) {idx b k a : Nat} (f : FL own idx b k) (hk : kd M a % 1000 = b) (hb : b ≠ 0 ∧ b < 100) (hc : (cds b)[k]? = some 2) (hv : fR M a k = none) (d : decode cc pc = .ok (.getfield idx, 3)) (kk : Z X M cs sl (pc + 3) L (.null :: st)) : Z X M cs sl pc L (.ref a :: st) :=
  z_getV g f hk hb hc d (by rw [show fv1 M a k 2 = .null by show va_rf (fR M a k) = _; rw [hv]; rfl]; exact kk)
def inInit (X : Cx) : Prop := match X with
  | (p, l, e, R, s, m, args, below, meth, c, D, cy, base, eD, nL, Q) => meth.name = "<init>"
theorem z_putV {X : Cx} {cc : ByteArray} {own : String} {M M' : Mm} {cs sl pc : Nat} {L : List (Nat × Value)} {st : List Value} (g : Gd X cc own) {idx b k a t : Nat} {ty : FieldType} {fin : Bool} {v : Value} (f : FP own idx b k ty fin) (hk : kd M a % 1000 = b) (hb : b ≠ 0 ∧ b < 100) (hc : (cds b)[k]? = some t) (hfi : fin = true → inInit X) (hn : narrow ty v = v) (hfit : fits ty v = true)
    (hv : fv1 M' a k t = v) (ho : ∀ i d, i ≠ k → fv1 M' a i d = fv1 M a i d) (hk' : ∀ b, kd M' b = kd M b) (hln : ∀ b, ln M' b = ln M b) (hoth : ∀ b, b ≠ a → fI M b = fI M' b ∧ fL M b = fL M' b ∧ fR M b = fR M' b)
    (d : decode cc pc = .ok (.putfield idx, 3)) (kk : Z X M' cs sl (pc + 3) L st) : Z X M cs sl pc L (v :: .ref a :: st) := by
  obtain ⟨p, l, e, R, s, m, args, below, meth, c, D, cy, base, eD, nL, Q⟩ := X
  obtain ⟨hx, hb', hml, hown, hlk, hgs, hbs, hst⟩ := g
  obtain ⟨C, T, N, ref, ty0, f1, f2, f3, f4, f5, f6, f7, f8, f9, f10⟩ := f
  intro H locs ls hr hS hl
  have hka : kd M a ≠ 0 := fun e => hb.1 (by rw [← hk, e])
  have hro : ¬ ro (kd M a) := fun z => by unfold ro at z; rw [hk] at z; omega
  have hbase : base ≤ a := by
    obtain ⟨ed, h1, -⟩ := hr
    exact (h1 a hka).2.resolve_right hro
  have hsame : ∀ x, s.fieldFound? (T k).1 (T k).2.1 (T k).2.2.1 = some x → s.fieldFound? ref (T k).2.1 (T k).2.2.1 = some x := by
    rcases f4 with e4 | e4
    · rw [e4]; exact fun x h => h
    · exact fun x h => u_same (hgs.2.1.use (args := args) e4 rfl) x h
  have hts : ∀ w ∈ u_ws C T N, w.before args s = true := fun w hw => hgs.2.1.use (f2 w hw) (by obtain ⟨j, -, rfl⟩ := List.mem_map.mp hw; unfold u_lay; split <;> rfl)
  have hap := va_apart (own := own) (args := args) hts (fun w h => h) ty0 f6 f7 hgs.1 f1
  obtain ⟨r, h1, cell, q1, q2, q3, q4⟩ := rl_obj hr hk hb.1 hb.2
  have hrr : r = (C, T, N) := Option.some.inj (h1.symm.trans f1)
  subst hrr
  obtain ⟨hSl, hfc, kC, hkC, hkind⟩ := hgs.1.1 (cix b) _ f1
  obtain ⟨cf, kf, fi, fd, hi, hsl⟩ := hSl k f3
  have hst' := (u_facts (args := args) hfc hkC (u_lays hts (fun w h => h) f3) hi).1
  have hlen : k < (fvs M a 0 (cds b)).length := by rw [fvs_len]; exact (List.getElem?_eq_some_iff.mp hc).1
  have key : ∀ H' : Heap, H'[a]? = some (cell.setSlot fd.slot v) → H'.size = H.size → (∀ q, q ≠ a → H'[q]? = H[q]?) → W p l e R s m args below meth c H' (locs ++ [⟨a, fd.slot⟩]) cs sl Q (F0 m (pc + 3) ls st) := by
    intro H' e1 e2 e3
    rw [hsl] at e1
    refine kk H' _ ls ?_ (hS.put e2 e3 hbase) hl
    refine rl_set hr hka (by rw [hk]; omega) hro e3 (fun ed ho2 => ?_) hk' hln hoth
    refine ⟨fun _ => ?_, fun z => by rw [hk', hk] at z; omega, fun z => by rw [hk', hk] at z; omega, fun z => by rw [hk', hk] at z; omega, fun z => by rw [hk', hk] at z; omega⟩
    rw [hk', hk, fvs_set (M := M) (M' := M') (a := a) (j := k) (c := t) (v := v) (cds b) 0 hc (by rw [Nat.zero_add]; exact hv) (fun i d hi2 => ho i d (by rw [Nat.zero_add] at hi2; exact hi2))]
    exact ⟨_, f1, t_OB.to (V := updV (vp_V (fvs M a 0 (cds b))) k v) ⟨_, e1, q2, q3, t_set q4 hap f3 v⟩ (fun j _ => vp_updV_set hlen v j)⟩
  have hlay := hts _ (u_in_lay f3)
  unfold u_lay at hlay
  cases fin with
  | false =>
    rw [if_neg (by rw [f9]; decide)] at hlay
    have h6 := u_store hfc hkC hkind hlay hi f8 hn hfit
    rcases f5 with e5 | ⟨-, host, e5⟩
    · exact W.putK hx hb' (f := fd) ⟨hown, hgs.2.1.use e5 rfl, ⟨_, _, _, hsame _ hi⟩, hst'⟩ (by rw [q2]; exact h6) q1 q3 (by rw [hsl]; exact k2_hasslot (q4 k f3)) rfl rfl d key
    · exact va_WputK hx hb' (f := fd) hown (hgs.2.1.use e5 rfl) (hsame _ hi) hst' (by rw [q2]; exact h6) q1 q3 (by rw [hsl]; exact k2_hasslot (q4 k f3)) rfl rfl d key
  | true =>
    rw [if_pos f9] at hlay
    rcases f5 with e5 | ⟨e5, -⟩
    · have hcf : m.cls = cf := by
        obtain ⟨_, _, c', _, _, _, -, -, hf', -, -, -, hown2, -⟩ := Cond.laysFinal_spec hlay
        have e1 : c' = cf := by have := hi.symm.trans hf'; simp at this; exact this.1.symm
        rw [f10 rfl] at hown2
        rw [← e1]; exact Option.some.inj (hown.symm.trans hown2)
      have h6 := u_fits hfc hkC hkind (Or.inr hlay) hi f8 hn hfit
      exact W.putFinK hx hb' hown (hgs.2.1.use e5 rfl) (hsame _ hi) hst' hcf (hfi rfl) (by rw [q2]; exact h6) q1 q3 (by rw [hsl]; exact k2_hasslot (q4 k f3)) rfl rfl d key
    · rw [f9] at e5; cases e5
theorem fv1_sI {M : Mm} {a k : Nat} {v : Int32} (i d : Nat) (h : i ≠ k) : fv1 (sI M a k v) a i d = fv1 M a i d := by
  unfold fv1
  rw [show fI (sI M a k v) a i = fI M a i from if_neg (fun z => h z.2), fL_sI, fR_sI]
theorem fv1_sL {M : Mm} {a k : Nat} {v : Int64} (i d : Nat) (h : i ≠ k) : fv1 (sL M a k v) a i d = fv1 M a i d := by
  unfold fv1
  rw [show fL (sL M a k v) a i = fL M a i from if_neg (fun z => h z.2), fI_sL, fR_sL]
theorem fv1_sR {M : Mm} {a k : Nat} {v : Option Nat} (i d : Nat) (h : i ≠ k) : fv1 (sR M a k v) a i d = fv1 M a i d := by
  unfold fv1
  rw [show fR (sR M a k v) a i = fR M a i from if_neg (fun z => h z.2), fI_sR, fL_sR]
theorem z_putI {X : Cx} {cc : ByteArray} {own : String} {M : Mm} {cs sl pc : Nat} {L : List (Nat × Value)} {st : List Value} (g : Gd X cc own) {idx b k a : Nat} {fin : Bool} {v : Int32} (f : FP own idx b k .int fin) (hk : kd M a % 1000 = b) (hb : b ≠ 0 ∧ b < 100) (hc : (cds b)[k]? = some 0) (hfi : fin = true → inInit X) (d : decode cc pc = .ok (.putfield idx, 3)) (kk : Z X (sI M a k v) cs sl (pc + 3) L st) : Z X M cs sl pc L (.int v :: .ref a :: st) :=
  z_putV (M' := sI M a k v) (t := 0) g f hk hb hc hfi (by first | rfl | decide) (by first | rfl | decide) (by show Value.int (fI (sI M a k v) a k) = _; rw [fI_sI, if_pos ⟨rfl, rfl⟩]) (fun i d hi => fv1_sI i d hi) (fun _ => rfl) (fun _ => rfl) (fun b hb => ⟨(up2_na _ _ hb).symm, rfl, rfl⟩) d kk
theorem z_putZ {X : Cx} {cc : ByteArray} {own : String} {M : Mm} {cs sl pc : Nat} {L : List (Nat × Value)} {st : List Value} (g : Gd X cc own) {idx b k a : Nat} {fin : Bool} {v : Int32} (f : FP own idx b k .boolean fin) (hk : kd M a % 1000 = b) (hb : b ≠ 0 ∧ b < 100) (hc : (cds b)[k]? = some 0) (hfi : fin = true → inInit X) (h01 : v = 0 ∨ v = 1) (d : decode cc pc = .ok (.putfield idx, 3)) (kk : Z X (sI M a k v) cs sl (pc + 3) L st) : Z X M cs sl pc L (.int v :: .ref a :: st) :=
  z_putV (M' := sI M a k v) (t := 0) g f hk hb hc hfi (by rcases h01 with rfl | rfl <;> first | rfl | decide) (by rcases h01 with rfl | rfl <;> first | rfl | decide) (by show Value.int (fI (sI M a k v) a k) = _; rw [fI_sI, if_pos ⟨rfl, rfl⟩]) (fun i d hi => fv1_sI i d hi) (fun _ => rfl) (fun _ => rfl) (fun b hb => ⟨(up2_na _ _ hb).symm, rfl, rfl⟩) d kk
theorem z_putL {X : Cx} {cc : ByteArray} {own : String} {M : Mm} {cs sl pc : Nat} {L : List (Nat × Value)} {st : List Value} (g : Gd X cc own) {idx b k a : Nat} {fin : Bool} {v : Int64} (f : FP own idx b k .long fin) (hk : kd M a % 1000 = b) (hb : b ≠ 0 ∧ b < 100) (hc : (cds b)[k]? = some 1) (hfi : fin = true → inInit X) (d : decode cc pc = .ok (.putfield idx, 3)) (kk : Z X (sL M a k v) cs sl (pc + 3) L st) : Z X M cs sl pc L (.long v :: .ref a :: st) :=
  z_putV (M' := sL M a k v) (t := 1) g f hk hb hc hfi (by first | rfl | decide) (by first | rfl | decide) (by show Value.long (fL (sL M a k v) a k) = _; rw [fL_sL, if_pos ⟨rfl, rfl⟩]) (fun i d hi => fv1_sL i d hi) (fun _ => rfl) (fun _ => rfl) (fun b hb => ⟨rfl, (up2_na _ _ hb).symm, rfl⟩) d kk
theorem z_putR {X : Cx} {cc : ByteArray} {own : String} {M : Mm} {cs sl pc : Nat} {L : List (Nat × Value)} {st : List Value} (g : Gd X cc own) {idx b k a v : Nat} {ty : FieldType} {fin : Bool} (f : FP own idx b k ty fin) (hty : ty.isReference = true) (hk : kd M a % 1000 = b) (hb : b ≠ 0 ∧ b < 100) (hc : (cds b)[k]? = some 2) (hfi : fin = true → inInit X) (d : decode cc pc = .ok (.putfield idx, 3)) (kk : Z X (sR M a k (some v)) cs sl (pc + 3) L st) : Z X M cs sl pc L (.ref v :: .ref a :: st) :=
  z_putV (M' := sR M a k (some v)) (t := 2) g f hk hb hc hfi (by cases ty <;> first | rfl | cases hty) (by cases ty <;> first | rfl | cases hty) (by show va_rf (fR (sR M a k (some v)) a k) = _; rw [fR_sR, if_pos ⟨rfl, rfl⟩]; rfl) (fun i d hi => fv1_sR i d hi) (fun _ => rfl) (fun _ => rfl) (fun b hb => ⟨rfl, rfl, (up2_na _ _ hb).symm⟩) d kk
theorem z_alenI {X : Cx} {cc : ByteArray} {own : String} {M : Mm} {cs sl pc : Nat} {L : List (Nat × Value)} {st : List Value} (g : Gd X cc own) {a : Nat} (h1 : 100 ≤ kd M a % 1000) (h2 : kd M a % 1000 < 200) (d : decode cc pc = .ok (.arraylength, 1)) (kk : Z X M cs sl (pc + 1) L (.int (nI (ln M a)) :: st)) : Z X M cs sl pc L (.ref a :: st) := by
  obtain ⟨p, l, e, R, s, m, args, below, meth, c, D, cy, base, eD, nL, Q⟩ := X
  obtain ⟨hx, hb, hml, hown, hlk, hgs, hbs, hst⟩ := g
  exact fun H locs ls hr hS hl => va_alen hx hb hgs.1 (va_one (rl_arI hr h1 h2)) 0 0 rfl rfl rfl d (kk H locs ls hr hS hl)
theorem z_alenR {X : Cx} {cc : ByteArray} {own : String} {M : Mm} {cs sl pc : Nat} {L : List (Nat × Value)} {st : List Value} (g : Gd X cc own) {a : Nat} (h1 : 300 ≤ kd M a % 1000) (h2 : kd M a % 1000 < 400) (d : decode cc pc = .ok (.arraylength, 1)) (kk : Z X M cs sl (pc + 1) L (.int (nI (ln M a)) :: st)) : Z X M cs sl pc L (.ref a :: st) := by
  obtain ⟨p, l, e, R, s, m, args, below, meth, c, D, cy, base, eD, nL, Q⟩ := X
  obtain ⟨hx, hb, hml, hown, hlk, hgs, hbs, hst⟩ := g
  intro H locs ls hr hS hl
  by_cases h3 : kd M a % 1000 < 390
  · exact va_alen hx hb hgs.1 (va_one (rl_arR hr h1 h3)) 0 1 rfl rfl rfl d (kk H locs ls hr hS hl)
  · have hk := kk H locs ls hr hS hl
    obtain ⟨ed, -, -, -, y4, ⟨cell, y5, y6, y7, y8⟩, y9⟩ := hr
    have e := y9 a (by omega) h2
    subst e
    rw [y4] at hk
    exact W.alen (n := Int32.ofNat 0) hx hb y5 ⟨fun k h => (by rw [h] at y8; exact Bool.noConfusion y8), (by rw [y6]; exact ((hgs.1.2 1 _ rfl).1 0 (fun j => va_rf none)).2)⟩ (by rw [y7] <;> rfl) rfl rfl d hk
theorem z_iald {X : Cx} {cc : ByteArray} {own : String} {M : Mm} {cs sl pc : Nat} {L : List (Nat × Value)} {st : List Value} (g : Gd X cc own) {a : Nat} {i : Int32} (h1 : 100 ≤ kd M a % 1000) (h2 : kd M a % 1000 < 200) (hin : vp_in i (ln M a)) (d : decode cc pc = .ok (.iaload, 1)) (kk : Z X M cs sl (pc + 1) L (.int (fI M a i.toNatClampNeg) :: st)) : Z X M cs sl pc L (.int i :: .ref a :: st) := by
  obtain ⟨p, l, e, R, s, m, args, below, meth, c, D, cy, base, eD, nL, Q⟩ := X
  obtain ⟨hx, hb, hml, hown, hlk, hgs, hbs, hst⟩ := g
  exact fun H locs ls hr hS hl => va_iald hx hb hgs.1 (va_one (rl_arI hr h1 h2)) 0 0 rfl rfl hin d (kk H locs ls hr hS hl)
theorem z_aald {X : Cx} {cc : ByteArray} {own : String} {M : Mm} {cs sl pc : Nat} {L : List (Nat × Value)} {st : List Value} (g : Gd X cc own) {a r : Nat} {i : Int32} (h1 : 300 ≤ kd M a % 1000) (h2 : kd M a % 1000 < 400) (hin : vp_in i (ln M a)) (hv : fR M a i.toNatClampNeg = some r) (d : decode cc pc = .ok (.aaload, 1)) (kk : Z X M cs sl (pc + 1) L (.ref r :: st)) : Z X M cs sl pc L (.int i :: .ref a :: st) := by
  obtain ⟨p, l, e, R, s, m, args, below, meth, c, D, cy, base, eD, nL, Q⟩ := X
  obtain ⟨hx, hb, hml, hown, hlk, hgs, hbs, hst⟩ := g
  intro H locs ls hr hS hl
  by_cases h3 : kd M a % 1000 < 390
  · exact va_aldq hx hb hgs.1 (va_one (rl_arR hr h1 h3)) 0 1 rfl rfl hin d (by rw [hv]; exact kk H locs ls hr hS hl)
  · obtain ⟨ed, -, -, -, y4, -, y9⟩ := hr
    have e := y9 a (by omega) h2
    subst e
    rw [y4] at hin
    exact absurd (Or.inr (Nat.zero_le _)) hin
theorem z_iast {X : Cx} {cc : ByteArray} {own : String} {M : Mm} {cs sl pc : Nat} {L : List (Nat × Value)} {st : List Value} (g : Gd X cc own) {a : Nat} {i x : Int32} (h1 : 100 ≤ kd M a % 1000) (h2 : kd M a % 1000 < 190) (hin : vp_in i (ln M a)) (d : decode cc pc = .ok (.iastore, 1)) (kk : Z X (sI M a i.toNatClampNeg x) cs sl (pc + 1) L st) : Z X M cs sl pc L (.int x :: .int i :: .ref a :: st) := by
  obtain ⟨p, l, e, R, s, m, args, below, meth, c, D, cy, base, eD, nL, Q⟩ := X
  obtain ⟨hx, hb, hml, hown, hlk, hgs, hbs, hst⟩ := g
  intro H locs ls hr hS hl
  have hka : kd M a ≠ 0 := fun e => by rw [e] at h1; simp at h1
  have hro : ¬ ro (kd M a) := fun z => by unfold ro at z; omega
  have hbase : base ≤ a := by
    obtain ⟨ed, h1, -⟩ := hr
    exact (h1 a hka).2.resolve_right hro
  refine W.iast hx hb (rl_arI hr h1 (by omega)) ((hgs.1.2 0 _ rfl).1 (ln M a) (fun j => .int (fI M a j))) (fun q => by cases q) (by show ¬ (i < 0 ∨ (arrV _ _ _).slots.size ≤ _); rw [arrV_size]; exact hin) rfl rfl d fun H1 e z oq => ?_
  refine kk H1 _ ls (rl_set hr hka (by omega) hro oq (fun ed ho => ?_) (fun _ => rfl) (fun _ => rfl) (fun b hb => ⟨(up2_na _ _ hb).symm, rfl, rfl⟩)) (hS.put z oq hbase) hl
  refine ⟨fun y => by rw [kd_sI] at y; omega, fun _ _ => ?_, fun y => by rw [kd_sI] at y; omega, fun y => by rw [kd_sI] at y; omega, fun y => by rw [kd_sI] at y; omega⟩
  show H1[a]? = some (vp_cell _ _)
  rw [e, vp_cell_i, vp_cell_i, arrV_store]
  congr 2
  funext q
  show updV (fun j => Value.int (fI M a j)) i.toNatClampNeg (.int x) q = Value.int (fI (sI M a i.toNatClampNeg x) a q)
  rw [fI_sI]
  by_cases hq : q = i.toNatClampNeg
  · subst hq; simp [updV]
  · simp [updV, hq]
theorem z_newI {X : Cx} {cc : ByteArray} {own : String} {M : Mm} {cs sl pc : Nat} {L : List (Nat × Value)} {st : List Value} (g : Gd X cc own) {n : Int32} {N : Nat} (k : Nat) (h1 : 100 ≤ k % 1000) (h2 : k % 1000 < 190) (hw : Cond.arrayClass .int ∈ lw_tbl) (hn : ¬ n < 0) (hN : n.toNatClampNeg = N) (hN2 : N ≤ 1000000) (hc : cs + 1 ≤ (xR X).cells) (hs : sl + N ≤ (xR X).slots) (d : decode cc pc = .ok (.newarray .int, 2))
    (kk : ∀ a : Nat, kd M a = 0 → Z X (al M a k N) (cs + 1) (sl + N) (pc + 2) L (.ref a :: st)) : Z X M cs sl pc L (.int n :: st) := by
  obtain ⟨p, l, e, R, s, m, args, below, meth, c, D, cy, base, eD, nL, Q⟩ := X
  obtain ⟨hx, hb, hml, hown, hlk, hgs, hbs, hst⟩ := g
  intro H locs ls hr hS hl
  refine va_newaK (atype := .int) hx hb (hgs.2.1.use (args := args) hw rfl) rfl d rfl hn hN (by show N * 4 ≤ 536870912; omega) hc hs rfl fun H1 cA e1 z1 o1 hAr hNm => ?_
  have hcA : cA = cy 0 := Option.some.inj (hNm.symm.trans (hgs.1.2 0 _ rfl).2)
  subst hcA
  have hb2 : base ≤ H.size := Nat.le_trans hbs hS.1
  have hkd : kd M H.size = 0 := by
    by_cases q : kd M H.size = 0
    · exact q
    · exact absurd (rl_lt hr q) (Nat.lt_irrefl _)
  refine kk H.size hkd H1 locs ls (rl_new hr (by omega) hb2 o1 (fun ed => ?_)) ⟨Nat.le_trans hS.1 (by omega), fun x q1 q2 => (o1 x (Nat.lt_of_lt_of_le q1 hS.1)).trans (hS.2.1 x q1 q2), hS.2.2⟩ hl
  have hkk : kd (al M H.size k N) H.size = k := by rw [kd_al, if_pos rfl]
  refine ⟨fun y => by rw [hkk] at y; omega, fun _ _ => ?_, fun y => by rw [hkk] at y; omega, fun y => by rw [hkk] at y; omega, fun y => by rw [hkk] at y; omega⟩
  show H1[H.size]? = some (vp_cell _ _)
  rw [e1, vp_cell_i, ln_al, if_pos rfl]
  congr 2
  funext q
  show _ = Value.int (fI (al M H.size k N) H.size q)
  rw [fI_al, if_pos rfl]
  rfl
theorem z_new {X : Cx} {cc : ByteArray} {own : String} {M : Mm} {cs sl pc : Nat} {L : List (Nat × Value)} {st : List Value} (g : Gd X cc own) {idx b : Nat} (k : Nat) (f : NW own idx b) (hk : k % 1000 = b) (hb : b ≠ 0 ∧ b < 100) (hc : cs + 1 ≤ (xR X).cells) (hs : sl + (cds b).length ≤ (xR X).slots) (d : decode cc pc = .ok (.new idx, 3))
    (kk : ∀ a : Nat, kd M a = 0 → Z X (al M a k 0) (cs + 1) (sl + (cds b).length) (pc + 3) L (.ref a :: st)) : Z X M cs sl pc L st := by
  obtain ⟨p, l, e, R, s, m, args, below, meth, c, D, cy, base, eD, nL, Q⟩ := X
  obtain ⟨hx, hb', hml, hown, hlk, hgs, hbs, hst⟩ := g
  obtain ⟨C, T, N, ty, f1, f2, f3, f4, f5, f6, f7, f8⟩ := f
  intro H locs ls hr hS hl
  have hts : ∀ w ∈ u_ws C T N, w.before args s = true := fun w hw => hgs.2.1.use (f2 w hw) (by obtain ⟨j, -, rfl⟩ := List.mem_map.mp hw; unfold u_lay; split <;> rfl)
  have hKn := hgs.1.1 (cix b) _ f1
  subst f4
  refine W.newcK hx hb' hown (hgs.2.1.use f6 rfl) (hgs.2.1.use f7 rfl) (hgs.2.1.use f8 rfl) rfl d hc hs hKn.2.1 rfl fun H1 kC hkC e1 z1 o1 => ?_
  have hb2 : base ≤ H.size := Nat.le_trans hbs hS.1
  have hkd : kd M H.size = 0 := by
    by_cases q : kd M H.size = 0
    · exact q
    · exact absurd (rl_lt hr q) (Nat.lt_irrefl _)
  refine kk H.size hkd H1 locs ls (rl_new hr (by omega) hb2 o1 (fun ed => ?_)) ⟨Nat.le_trans hS.1 (by omega), fun x q1 q2 => (o1 x (Nat.lt_of_lt_of_le q1 hS.1)).trans (hS.2.1 x q1 q2), hS.2.2⟩ hl
  have hkk : kd (al M H.size k 0) H.size = k := by rw [kd_al, if_pos rfl]
  refine ⟨fun _ => ?_, fun y => by rw [hkk] at y; omega, fun y => by rw [hkk] at y; omega, fun y => by rw [hkk] at y; omega, fun y => by rw [hkk] at y; omega⟩
  rw [hkk, hk]
  refine ⟨_, f1, (u_born ty hts (fun w h => h) hKn hkC e1 f3).to (fun j hj => ?_)⟩
  obtain ⟨t, ht⟩ : ∃ t, (cds b)[j]? = some t := ⟨(cds b)[j], List.getElem?_eq_getElem hj⟩
  rw [f5 j t ht]
  have h9 := fvs_get (al M H.size k 0) H.size (cds b) 0 j t ht
  unfold vp_V
  rw [List.getD_eq_getElem?_getD, h9, Nat.zero_add]
  show _ = fv1 (al M H.size k 0) H.size j t
  unfold fv1
  rw [fI_al, if_pos rfl, fL_al, if_pos rfl, fR_al, if_pos rfl]
  rfl
