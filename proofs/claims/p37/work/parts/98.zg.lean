theorem exo.tr {M M1 M2 : Mm} {x : Nat} (h : exo M M1 x) (h2 : exo M1 M2 x) : exo M M2 x := fun b hb hx => by
  have s := h b hb hx
  exact s.tr (h2 b (by rw [← s.1]; exact hb) hx)
theorem same.rowI {M : Mm} {a b : Nat} {g : Nat → Int32} (h : b ≠ a) : same M (rowI M a g) b := ⟨rfl, by rw [fI_rowI, if_neg h], rfl, rfl, rfl⟩
def XS (x k a c n : Nat) (M M' : Mm) : Prop := exo M M' x ∧ kd M a = 0 ∧ kd M' x = kd M x ∧ (∀ j, fI M' x j = fI M x j) ∧ (∀ j, fR M' x j = if j = k then some a else fR M x j) ∧ kd M' a = c ∧ ln M' a = n ∧ ∀ j, fI M' a j = 0
theorem XS_of {x k a c n : Nat} {M M1 : Mm} (hx : kd M x ≠ 0) (ha : kd M a = 0) (h1 : ∀ b, kd M b ≠ 0 → same M M1 b) (h2 : kd M1 a = c) (h3 : ln M1 a = n) (h4 : ∀ j, fI M1 a j = 0) : XS x k a c n M (sR M1 x k (some a)) := by
  have s := h1 x hx
  refine ⟨fun b hb hbx => (h1 b hb).tr (same.sR hbx), ha, s.1.symm, fun j => (congrFun s.2.1 j).symm, fun j => ?_, h2, h3, h4⟩
  rw [fR_sR]
  by_cases e : j = k
  · rw [if_pos ⟨rfl, e⟩, if_pos e]
  · rw [if_neg (fun z => e z.2), if_neg e]; exact (congrFun s.2.2.2.1 j).symm
theorem XS_list {x k a c : Nat} {M : Mm} (hx : kd M x ≠ 0) (ha : kd M a = 0) : XS x k a c 0 M (sR (alL M a c) x k (some a)) :=
  XS_of hx ha (fun b hb => same.alL (fun z => hb (by rw [z]; exact ha))) (by rw [kd_alL, if_pos rfl]) (by rw [ln_alL, if_pos rfl]) (fun j => by rw [fI_alL, if_pos rfl])
theorem XS_arr {x k a c n : Nat} {M : Mm} (hx : kd M x ≠ 0) (ha : kd M a = 0) : XS x k a c n M (sR (al M a c n) x k (some a)) :=
  XS_of hx ha (fun b hb => same.al (fun z => hb (by rw [z]; exact ha))) (by rw [kd_al, if_pos rfl]) (by rw [ln_al, if_pos rfl]) (fun j => by rw [fI_al, if_pos rfl])
def asgM (M : Mm) (s c w l : Nat) : Mm := sR (al (sR (al (sR (al (al M s 1 0) c 172 4) s 0 (some c)) w 173 16) s 1 (some w)) l 174 16) s 2 (some l)
theorem XS_asg {x s c w l : Nat} {M : Mm} (hx : kd M x ≠ 0) (hs : kd M s = 0) (hc : kd (al M s 1 0) c = 0) (hw : kd (sR (al (al M s 1 0) c 172 4) s 0 (some c)) w = 0) (hl : kd (sR (al (sR (al (al M s 1 0) c 172 4) s 0 (some c)) w 173 16) s 1 (some w)) l = 0) :
    XS x 6 s 1 0 M (sR (asgM M s c w l) x 6 (some s)) ∧ (fR (asgM M s c w l) s 0 = some c ∧ fR (asgM M s c w l) s 1 = some w ∧ fR (asgM M s c w l) s 2 = some l) ∧ (kd (asgM M s c w l) c = 172 ∧ kd (asgM M s c w l) w = 173 ∧ kd (asgM M s c w l) l = 174) ∧ ln (asgM M s c w l) c = 4 ∧ ln (asgM M s c w l) w = 16 ∧ ln (asgM M s c w l) l = 16 ∧ s ≠ x ∧ c ≠ x ∧ w ≠ x ∧ l ≠ x := by
  simp only [kd_sR, kd_al] at hc hw hl
  obtain ⟨n1, hc⟩ := ite_z (by decide) hc
  obtain ⟨n2, hw⟩ := ite_z (by decide) hw
  obtain ⟨n3, hw⟩ := ite_z (by decide) hw
  obtain ⟨n4, hl⟩ := ite_z (by decide) hl
  obtain ⟨n5, hl⟩ := ite_z (by decide) hl
  obtain ⟨n6, hl⟩ := ite_z (by decide) hl
  have m1 : s ≠ c := fun z => n1 z.symm
  have m2 : c ≠ w := fun z => n2 z.symm
  have m3 : s ≠ w := fun z => n3 z.symm
  have m4 : w ≠ l := fun z => n4 z.symm
  have m5 : c ≠ l := fun z => n5 z.symm
  have m6 : s ≠ l := fun z => n6 z.symm
  refine ⟨XS_of hx hs (fun b hb => ?_) ?_ ?_ (fun j => ?_), ⟨?_, ?_, ?_⟩, ⟨?_, ?_, ?_⟩, ?_, ?_, ?_, fun z => hx (by rw [← z]; exact hs), fun z => hx (by rw [← z]; exact hc), fun z => hx (by rw [← z]; exact hw), fun z => hx (by rw [← z]; exact hl)⟩
  · have b1 : b ≠ s := fun z => hb (by rw [z]; exact hs)
    have b2 : b ≠ c := fun z => hb (by rw [z]; exact hc)
    have b3 : b ≠ w := fun z => hb (by rw [z]; exact hw)
    have b4 : b ≠ l := fun z => hb (by rw [z]; exact hl)
    exact ((((((same.al b1).tr (same.al b2)).tr (same.sR b1)).tr (same.al b3)).tr (same.sR b1)).tr (same.al b4)).tr (same.sR b1)
  · unfold asgM; simp [kd_sR, kd_al, ln_sR, ln_al, fR_sR, fR_al, fI_sR, fI_al, n1, n2, n3, n4, n5, n6, m1, m2, m3, m4, m5, m6]
  · unfold asgM; simp [kd_sR, kd_al, ln_sR, ln_al, fR_sR, fR_al, fI_sR, fI_al, n1, n2, n3, n4, n5, n6, m1, m2, m3, m4, m5, m6]
  · unfold asgM; simp [kd_sR, kd_al, ln_sR, ln_al, fR_sR, fR_al, fI_sR, fI_al, n1, n2, n3, n4, n5, n6, m1, m2, m3, m4, m5, m6]
  · unfold asgM; simp [kd_sR, kd_al, ln_sR, ln_al, fR_sR, fR_al, fI_sR, fI_al, n1, n2, n3, n4, n5, n6, m1, m2, m3, m4, m5, m6]
  · unfold asgM; simp [kd_sR, kd_al, ln_sR, ln_al, fR_sR, fR_al, fI_sR, fI_al, n1, n2, n3, n4, n5, n6, m1, m2, m3, m4, m5, m6]
  · unfold asgM; simp [kd_sR, kd_al, ln_sR, ln_al, fR_sR, fR_al, fI_sR, fI_al, n1, n2, n3, n4, n5, n6, m1, m2, m3, m4, m5, m6]
  · unfold asgM; simp [kd_sR, kd_al, ln_sR, ln_al, fR_sR, fR_al, fI_sR, fI_al, n1, n2, n3, n4, n5, n6, m1, m2, m3, m4, m5, m6]
  · unfold asgM; simp [kd_sR, kd_al, ln_sR, ln_al, fR_sR, fR_al, fI_sR, fI_al, n1, n2, n3, n4, n5, n6, m1, m2, m3, m4, m5, m6]
  · unfold asgM; simp [kd_sR, kd_al, ln_sR, ln_al, fR_sR, fR_al, fI_sR, fI_al, n1, n2, n3, n4, n5, n6, m1, m2, m3, m4, m5, m6]
  · unfold asgM; simp [kd_sR, kd_al, ln_sR, ln_al, fR_sR, fR_al, fI_sR, fI_al, n1, n2, n3, n4, n5, n6, m1, m2, m3, m4, m5, m6]
  · unfold asgM; simp [kd_sR, kd_al, ln_sR, ln_al, fR_sR, fR_al, fI_sR, fI_al, n1, n2, n3, n4, n5, n6, m1, m2, m3, m4, m5, m6]
  · unfold asgM; simp [kd_sR, kd_al, ln_sR, ln_al, fR_sR, fR_al, fI_sR, fI_al, n1, n2, n3, n4, n5, n6, m1, m2, m3, m4, m5, m6]
def TBs (L : Nat) (M0 M : Mm) (i : Nat) (Tf Rf : Nat → Nat) : Prop := (∀ b, kd M0 b ≠ 0 → b ≠ L → same M0 M b) ∧ kd M L = 403 ∧ ln M L = i ∧ ∀ t, t < i → fR M L t = some (Tf t) ∧ kd M (Tf t) = 10 + 1000 * t ∧ fR M (Tf t) 0 = some (Rf t) ∧ kd M (Rf t) = 171 + 1000 * t ∧ ln M (Rf t) = 27 ∧ ∀ l, l < 27 → fI M (Rf t) l = nI l
def tbM (M : Mm) (i t a : Nat) (S : Nat → Int32) : Mm := rowI (sR (al (al M t (10 + 1000 * i) 0) a (171 + 1000 * i) 27) t 0 (some a)) a S
theorem tb_nwc {M : Mm} {i t a : Nat} {S : Nat → Int32} (ht : kd M t = 0) (ha : kd (al M t (10 + 1000 * i) 0) a = 0) : nwc M (tbM M i t a S) t ∧ a ≠ t ∧ kd M a = 0 := by
  rw [kd_al] at ha
  obtain ⟨n1, ha⟩ := ite_z (by omega) ha
  refine ⟨⟨ht, fun b hb => ?_⟩, n1, ha⟩
  have b1 : b ≠ t := fun z => hb (by rw [z]; exact ht)
  have b2 : b ≠ a := fun z => hb (by rw [z]; exact ha)
  exact (((same.al b1).tr (same.al b2)).tr (same.sR b1)).tr (same.rowI b2)
theorem TBs_step {L : Nat} {M0 M : Mm} {i t a : Nat} {Tf Rf : Nat → Nat} {S : Nat → Int32} (h : TBs L M0 M i Tf Rf) (ht : kd M t = 0) (ha : kd (al M t (10 + 1000 * i) 0) a = 0) (hS : ∀ l, l < 27 → S l = nI l) : TBs L M0 (psh (tbM M i t a S) L t) (i + 1) (fun u => if u = i then t else Tf u) (fun u => if u = i then a else Rf u) := by
  obtain ⟨h1, h2, h3, h4⟩ := h
  obtain ⟨hw, n1, ha0⟩ := tb_nwc (S := S) ht ha
  have kL : kd M L ≠ 0 := by rw [h2]; decide
  have tL : t ≠ L := fun z => kL (by rw [← z]; exact ht)
  have aL : a ≠ L := fun z => kL (by rw [← z]; exact ha0)
  have old : ∀ b, kd M b ≠ 0 → b ≠ L → same M (psh (tbM M i t a S) L t) b := fun b hb hL => (hw.2 b hb).tr (same.psh hL)
  refine ⟨fun b hb hbL => ?_, ?_, ?_, fun u hu => ?_⟩
  · have s := h1 b hb hbL
    exact s.tr (old b (by rw [← s.1]; exact hb) hbL)
  · show kd (tbM M i t a S) L = 403
    rw [nwc_kd hw kL]; exact h2
  · rw [gl_ln hw kL, h3]
  · dsimp only
    by_cases e : u = i
    · rw [if_pos e, if_pos e, e]
      refine ⟨?_, ?_, ?_, ?_, ?_, fun l hl => ?_⟩
      · have := gl_new hw kL; rw [h3] at this; exact this
      · show kd (al (al M t (10 + 1000 * i) 0) a (171 + 1000 * i) 27) t = _
        rw [kd_al, if_neg (fun z => n1 z.symm), kd_al, if_pos rfl]
      · rw [psh_ro tL]
        show fR (sR (al (al M t (10 + 1000 * i) 0) a (171 + 1000 * i) 27) t 0 (some a)) t 0 = _
        rw [fR_sR, if_pos ⟨rfl, rfl⟩]
      · show kd (al (al M t (10 + 1000 * i) 0) a (171 + 1000 * i) 27) a = _
        rw [kd_al, if_pos rfl]
      · rw [psh_lo aL]
        show ln (al (al M t (10 + 1000 * i) 0) a (171 + 1000 * i) 27) a = _
        rw [ln_al, if_pos rfl]
      · show fI (rowI (sR (al (al M t (10 + 1000 * i) 0) a (171 + 1000 * i) 27) t 0 (some a)) a S) a l = _
        rw [fI_rowI, if_pos rfl]; exact hS l hl
    · rw [if_neg e, if_neg e]
      obtain ⟨g1, g2, g3, g4, g5, g6⟩ := h4 u (by omega)
      have sT := old (Tf u) (by rw [g2]; omega) (fun z => by rw [z, h2] at g2; omega)
      have sR_ := old (Rf u) (by rw [g4]; omega) (fun z => by rw [z, h2] at g4; omega)
      refine ⟨?_, sT.1.symm.trans g2, (congrFun sT.2.2.2.1 0).symm.trans g3, sR_.1.symm.trans g4, sR_.2.2.2.2.symm.trans g5, fun l hl => (congrFun sR_.2.1 l).symm.trans (g6 l hl)⟩
      rw [gl_old hw kL (by omega)]; exact g1
theorem TBs_LK {L : Nat} {M0 M : Mm} {i : Nat} {Tf Rf : Nat → Nat} (h : TBs L M0 M i Tf Rf) (hi : i < 100) : LK M L 10 := by
  refine ⟨by rw [h.2.1]; decide, by rw [h.2.2.1]; omega, fun u hu => ?_⟩
  rw [h.2.2.1] at hu
  obtain ⟨g1, g2, -⟩ := h.2.2.2 u hu
  rw [elt_new g1, g1, g2]
  exact ⟨rfl, by omega⟩
def nB (a0 a1 a2 a3 a4 a5 s c w l i0 i1 i2 : Nat) (Tf Rf : Nat → Nat) : Nat → Nat → Nat := fun k i => if k = 400 then a0 else if k = 401 then a1 else if k = 402 then a2 else if k = 403 then a3 else if k = 404 then a4 else if k = 405 then a5 else if k = 1 then s else if k = 172 then c else if k = 173 then w else if k = 174 then l else if k = 175 then i0 else if k = 176 then i1 else if k = 177 then i2 else if k = 10 then Tf i else if k = 171 then Rf i else 0
theorem k10 {P : Nat → Prop} (h0 : P 0) (h1 : P 1) (h2 : P 2) (h3 : P 3) (h4 : P 4) (h5 : P 5) (h6 : P 6) (h7 : P 7) (h8 : P 8) (h9 : P 9) : ∀ k, k < 10 → P k := by
  intro k hk
  match k, hk with
  | 0, _ => exact h0
  | 1, _ => exact h1
  | 2, _ => exact h2
  | 3, _ => exact h3
  | 4, _ => exact h4
  | 5, _ => exact h5
  | 6, _ => exact h6
  | 7, _ => exact h7
  | 8, _ => exact h8
  | 9, _ => exact h9
  | n + 10, hk => exact absurd hk (by omega)
theorem new_RX {M M1 : Mm} {x a0 a1 a2 a3 a4 a5 s c w l i0 i1 i2 : Nat} {Tf Rf : Nat → Nat} (kx : kd M x = 11) (fx : ∀ j, j ≠ 13 → fI M x j = 0) (f13 : fI M x 13 = 2)
    (hF : fR M x 0 = some a0 ∧ fR M x 1 = some a1 ∧ fR M x 2 = some a2 ∧ fR M x 3 = some a3 ∧ fR M x 4 = some a4 ∧ fR M x 5 = some a5 ∧ fR M x 6 = some s ∧ fR M x 7 = some i0 ∧ fR M x 8 = some i1 ∧ fR M x 9 = some i2)
    (hg : kd M a0 = 400 ∧ kd M a1 = 401 ∧ kd M a2 = 402 ∧ kd M a3 = 403 ∧ kd M a4 = 404 ∧ kd M a5 = 405) (hk : kd M s = 1 ∧ kd M c = 172 ∧ kd M w = 173 ∧ kd M l = 174 ∧ kd M i0 = 175 ∧ kd M i1 = 176 ∧ kd M i2 = 177)
    (hp : fR M s 0 = some c ∧ fR M s 1 = some w ∧ fR M s 2 = some l) (hl : ln M a0 = 0 ∧ ln M a1 = 0 ∧ ln M a2 = 0 ∧ ln M a4 = 0 ∧ ln M a5 = 0) (hn : ln M i0 = 4 ∧ ln M i1 = 24 ∧ ln M i2 = 9 ∧ ln M c = 4 ∧ ln M w = 16 ∧ ln M l = 16) (z7 : ∀ j, fI M i0 j = 0)
    (ht : TBs a3 M M1 4 Tf Rf) : RX (nB a0 a1 a2 a3 a4 a5 s c w l i0 i1 i2 Tf Rf) x (S0n 108) M1 := by
  obtain ⟨F0, F1, F2, F3, F4, F5, F6, F7, F8, F9⟩ := hF
  obtain ⟨g0, g1, g2, g3, g4, g5⟩ := hg
  obtain ⟨ks, kc, kw, kl, k0, k1, k2⟩ := hk
  obtain ⟨p0, p1, p2⟩ := hp
  obtain ⟨l0, l1, l2, l4, l5⟩ := hl
  obtain ⟨n0, n1, n2, n3, n4, n5⟩ := hn
  obtain ⟨t1, t2, t3, t4⟩ := ht
  have sm : ∀ b, kd M b ≠ 0 → kd M b ≠ 403 → same M M1 b := fun b hb h4 => t1 b hb (fun z => h4 (by rw [z]; exact g3))
  have s_x := sm x (by rw [kx]; decide) (by rw [kx]; decide)
  have s_a0 := sm a0 (by rw [g0]; decide) (by rw [g0]; decide)
  have s_a1 := sm a1 (by rw [g1]; decide) (by rw [g1]; decide)
  have s_a2 := sm a2 (by rw [g2]; decide) (by rw [g2]; decide)
  have s_a4 := sm a4 (by rw [g4]; decide) (by rw [g4]; decide)
  have s_a5 := sm a5 (by rw [g5]; decide) (by rw [g5]; decide)
  have s_s := sm s (by rw [ks]; decide) (by rw [ks]; decide)
  have s_c := sm c (by rw [kc]; decide) (by rw [kc]; decide)
  have s_w := sm w (by rw [kw]; decide) (by rw [kw]; decide)
  have s_l := sm l (by rw [kl]; decide) (by rw [kl]; decide)
  have s_i0 := sm i0 (by rw [k0]; decide) (by rw [k0]; decide)
  have s_i1 := sm i1 (by rw [k1]; decide) (by rw [k1]; decide)
  have s_i2 := sm i2 (by rw [k2]; decide) (by rw [k2]; decide)
  have fr : ∀ j, fR M1 x j = fR M x j := fun j => (congrFun s_x.2.2.2.1 j).symm
  have fi : ∀ j, fI M1 x j = fI M x j := fun j => (congrFun s_x.2.1 j).symm
  have no : ∀ {n : Nat}, ¬ n < 0 := fun h => absurd h (Nat.not_lt_zero _)
  refine ⟨⟨s_x.1.symm.trans kx, k10 ⟨(fr 0).trans F0, s_a0.1.symm.trans g0⟩ ⟨(fr 1).trans F1, s_a1.1.symm.trans g1⟩ ⟨(fr 2).trans F2, s_a2.1.symm.trans g2⟩ ⟨(fr 3).trans F3, t2⟩ ⟨(fr 4).trans F4, s_a4.1.symm.trans g4⟩ ⟨(fr 5).trans F5, s_a5.1.symm.trans g5⟩ ⟨(fr 6).trans F6, s_s.1.symm.trans ks⟩ ⟨(fr 7).trans F7, s_i0.1.symm.trans k0⟩ ⟨(fr 8).trans F8, s_i1.1.symm.trans k1⟩ ⟨(fr 9).trans F9, s_i2.1.symm.trans k2⟩, ?_, s_i0.2.2.2.2.symm.trans n0, s_i1.2.2.2.2.symm.trans n1, s_i2.2.2.2.2.symm.trans n2, s_c.2.2.2.2.symm.trans n3, s_w.2.2.2.2.symm.trans n4, s_l.2.2.2.2.symm.trans n5⟩, ⟨(fi 10).trans (fx 10 (by decide)), (fi 11).trans (fx 11 (by decide)), (fi 12).trans (fx 12 (by decide)), (fi 13).trans f13⟩,
    ⟨s_a0.2.2.2.2.symm.trans l0, fun f hf => (no hf).elim⟩, fun f hf => (no hf).elim, fun f hf => (no hf).elim, fun f hf => (no hf).elim, fun f hf => (no hf).elim, fun f hf => (no hf).elim, ⟨fun f hf => (no hf).elim, fun f hf => (no hf).elim⟩, ⟨fun f hf => (no hf).elim, fun f hf => (no hf).elim⟩,
    ⟨s_a1.2.2.2.2.symm.trans l1, fun u => u, fun f hf => (no hf).elim, fun f u _ hf => (no hf).elim, fun f hf => (no hf).elim⟩, ⟨s_a2.2.2.2.2.symm.trans l2, fun f hf => (no hf).elim⟩, ⟨t3, fun t ht => ?_⟩, ⟨s_a4.2.2.2.2.symm.trans l4, fun f hf => (no hf).elim⟩, fun u hu => ?_, ⟨s_a5.2.2.2.2.symm.trans l5, fun f hf => (no hf).elim, fun f hf => (no hf).elim⟩, fun f hf => (no hf).elim⟩
  · intro k hk
    have q : ∀ j, fR M1 s j = fR M s j := fun j => (congrFun s_s.2.2.2.1 j).symm
    match k, hk with
    | 0, _ => exact ⟨(q 0).trans p0, s_c.1.symm.trans kc⟩
    | 1, _ => exact ⟨(q 1).trans p1, s_w.1.symm.trans kw⟩
    | 2, _ => exact ⟨(q 2).trans p2, s_l.1.symm.trans kl⟩
    | n + 3, hk => exact absurd hk (by omega)
  · obtain ⟨b1, b2, b3, b4, b5, b6⟩ := t4 t ht
    refine ⟨b1, b2, b3, b4, b5, fun u hu => ?_⟩
    have h9 : gA (S0n 108) 50 (27 * t + u) = nI ((27 * t + u) % 27) := if_pos ⟨rfl, by omega⟩
    rw [h9, show (27 * t + u) % 27 = u by omega]; exact b6 u hu
  · have h9 : gA (S0n 108) 55 u = 0 := by simp [gA, S0n]
    rw [h9]
    exact (congrFun s_i0.2.1 u).symm.trans (z7 u)
set_option maxHeartbeats 4000000 in
set_option maxRecDepth 100000 in
theorem c_X10i (E : Ev) (M : Mm) (x : Nat) (kxm : kd M x = 11) (hx0 : ∀ j, fI M x j = 0) : CT E yX10_init cX10_init 2 none 8 30 900 [.ref x] M ((fun r M' => ∃ B, r = none ∧ RX B x (S0n 108) M' ∧ exo M M' x)) noX := by
  refine CT.of rfl (Nat.le_of_ble_eq_true rfl) (fun X g hrt hno hE hN hR hI => ?_)
  subst hE
  refine z_aload_n g dX10_init_0 rfl ?_
  refine z_objInit g oi_X10 oi_inst oi_code (by rw [hR]; decide) (by rw [hR]; decide) dX10_init_1 ?_
  refine z_aload_n g dX10_init_4 rfl ?_
  refine z_new g 20 nw_X10_7 (by omega) (by decide) (by rw [hR]; decide) (by rw [hR]; decide) dX10_init_5 (fun a0 za0 => ?_)
  have nx0 : x ≠ a0 := fun z => by rw [z, za0] at kxm; cases kxm
  refine z_dup g dX10_init_8 rfl ?_
  refine z_callI g _ _ ci_X10_9 (c_alinit _ _ a0 400 (by rw [kd_al, if_pos rfl]) (by rw [fI_al, if_pos rfl]) (by omega)) rfl (by rw [hR]; decide) (by rw [hR]; decide) (by rw [hR]; decide) (Nat.le_of_ble_eq_true rfl) rfl dX10_init_9 (fun _ _ h => False.elim h) (fun r_9 M_9 h_9 => ?_)
  obtain ⟨rfl, rfl⟩ := h_9
  rw [← alL]
  refine z_putR g fp_X10_10 rfl (by rw [kd_alL, if_neg nx0, kxm]) (by decide) rfl (fun _ => hI rfl) dX10_init_12 ?_
  have s0 : XS x 0 a0 400 0 M (sR (alL M a0 400) x 0 (some a0)) := XS_list (by rw [kxm]; decide) za0
  generalize sR (alL M a0 400) x 0 (some a0) = M0 at *
  have kx0 : kd M0 x = 11 := s0.2.2.1.trans kxm
  refine z_aload_n g dX10_init_15 rfl ?_
  refine z_new g 20 nw_X10_7 (by omega) (by decide) (by rw [hR]; decide) (by rw [hR]; decide) dX10_init_16 (fun a1 za1 => ?_)
  have nx1 : x ≠ a1 := fun z => by rw [z, za1] at kx0; cases kx0
  refine z_dup g dX10_init_19 rfl ?_
  refine z_callI g _ _ ci_X10_9 (c_alinit _ _ a1 401 (by rw [kd_al, if_pos rfl]) (by rw [fI_al, if_pos rfl]) (by omega)) rfl (by rw [hR]; decide) (by rw [hR]; decide) (by rw [hR]; decide) (Nat.le_of_ble_eq_true rfl) rfl dX10_init_20 (fun _ _ h => False.elim h) (fun r_20 M_20 h_20 => ?_)
  obtain ⟨rfl, rfl⟩ := h_20
  rw [← alL]
  refine z_putR g fp_X10_16 rfl (by rw [kd_alL, if_neg nx1, kx0]) (by decide) rfl (fun _ => hI rfl) dX10_init_23 ?_
  have s1 : XS x 1 a1 401 0 M0 (sR (alL M0 a1 401) x 1 (some a1)) := XS_list (by rw [kx0]; decide) za1
  generalize sR (alL M0 a1 401) x 1 (some a1) = M1 at *
  have kx1 : kd M1 x = 11 := s1.2.2.1.trans kx0
  refine z_aload_n g dX10_init_26 rfl ?_
  refine z_new g 20 nw_X10_7 (by omega) (by decide) (by rw [hR]; decide) (by rw [hR]; decide) dX10_init_27 (fun a2 za2 => ?_)
  have nx2 : x ≠ a2 := fun z => by rw [z, za2] at kx1; cases kx1
  refine z_dup g dX10_init_30 rfl ?_
  refine z_callI g _ _ ci_X10_9 (c_alinit _ _ a2 402 (by rw [kd_al, if_pos rfl]) (by rw [fI_al, if_pos rfl]) (by omega)) rfl (by rw [hR]; decide) (by rw [hR]; decide) (by rw [hR]; decide) (Nat.le_of_ble_eq_true rfl) rfl dX10_init_31 (fun _ _ h => False.elim h) (fun r_31 M_31 h_31 => ?_)
  obtain ⟨rfl, rfl⟩ := h_31
  rw [← alL]
  refine z_putR g fp_X10_19 rfl (by rw [kd_alL, if_neg nx2, kx1]) (by decide) rfl (fun _ => hI rfl) dX10_init_34 ?_
  have s2 : XS x 2 a2 402 0 M1 (sR (alL M1 a2 402) x 2 (some a2)) := XS_list (by rw [kx1]; decide) za2
  generalize sR (alL M1 a2 402) x 2 (some a2) = M2 at *
  have kx2 : kd M2 x = 11 := s2.2.2.1.trans kx1
  refine z_aload_n g dX10_init_37 rfl ?_
  refine z_new g 20 nw_X10_7 (by omega) (by decide) (by rw [hR]; decide) (by rw [hR]; decide) dX10_init_38 (fun a3 za3 => ?_)
  have nx3 : x ≠ a3 := fun z => by rw [z, za3] at kx2; cases kx2
  refine z_dup g dX10_init_41 rfl ?_
  refine z_callI g _ _ ci_X10_9 (c_alinit _ _ a3 403 (by rw [kd_al, if_pos rfl]) (by rw [fI_al, if_pos rfl]) (by omega)) rfl (by rw [hR]; decide) (by rw [hR]; decide) (by rw [hR]; decide) (Nat.le_of_ble_eq_true rfl) rfl dX10_init_42 (fun _ _ h => False.elim h) (fun r_42 M_42 h_42 => ?_)
  obtain ⟨rfl, rfl⟩ := h_42
  rw [← alL]
  refine z_putR g fp_X10_22 rfl (by rw [kd_alL, if_neg nx3, kx2]) (by decide) rfl (fun _ => hI rfl) dX10_init_45 ?_
  have s3 : XS x 3 a3 403 0 M2 (sR (alL M2 a3 403) x 3 (some a3)) := XS_list (by rw [kx2]; decide) za3
  generalize sR (alL M2 a3 403) x 3 (some a3) = M3 at *
  have kx3 : kd M3 x = 11 := s3.2.2.1.trans kx2
  refine z_aload_n g dX10_init_48 rfl ?_
  refine z_new g 20 nw_X10_7 (by omega) (by decide) (by rw [hR]; decide) (by rw [hR]; decide) dX10_init_49 (fun a4 za4 => ?_)
  have nx4 : x ≠ a4 := fun z => by rw [z, za4] at kx3; cases kx3
  refine z_dup g dX10_init_52 rfl ?_
  refine z_callI g _ _ ci_X10_9 (c_alinit _ _ a4 404 (by rw [kd_al, if_pos rfl]) (by rw [fI_al, if_pos rfl]) (by omega)) rfl (by rw [hR]; decide) (by rw [hR]; decide) (by rw [hR]; decide) (Nat.le_of_ble_eq_true rfl) rfl dX10_init_53 (fun _ _ h => False.elim h) (fun r_53 M_53 h_53 => ?_)
  obtain ⟨rfl, rfl⟩ := h_53
  rw [← alL]
  refine z_putR g fp_X10_25 rfl (by rw [kd_alL, if_neg nx4, kx3]) (by decide) rfl (fun _ => hI rfl) dX10_init_56 ?_
  have s4 : XS x 4 a4 404 0 M3 (sR (alL M3 a4 404) x 4 (some a4)) := XS_list (by rw [kx3]; decide) za4
  generalize sR (alL M3 a4 404) x 4 (some a4) = M4 at *
  have kx4 : kd M4 x = 11 := s4.2.2.1.trans kx3
  refine z_aload_n g dX10_init_59 rfl ?_
  refine z_new g 20 nw_X10_7 (by omega) (by decide) (by rw [hR]; decide) (by rw [hR]; decide) dX10_init_60 (fun a5 za5 => ?_)
  have nx5 : x ≠ a5 := fun z => by rw [z, za5] at kx4; cases kx4
  refine z_dup g dX10_init_63 rfl ?_
  refine z_callI g _ _ ci_X10_9 (c_alinit _ _ a5 405 (by rw [kd_al, if_pos rfl]) (by rw [fI_al, if_pos rfl]) (by omega)) rfl (by rw [hR]; decide) (by rw [hR]; decide) (by rw [hR]; decide) (Nat.le_of_ble_eq_true rfl) rfl dX10_init_64 (fun _ _ h => False.elim h) (fun r_64 M_64 h_64 => ?_)
  obtain ⟨rfl, rfl⟩ := h_64
  rw [← alL]
  refine z_putR g fp_X10_28 rfl (by rw [kd_alL, if_neg nx5, kx4]) (by decide) rfl (fun _ => hI rfl) dX10_init_67 ?_
  have s5 : XS x 5 a5 405 0 M4 (sR (alL M4 a5 405) x 5 (some a5)) := XS_list (by rw [kx4]; decide) za5
  generalize sR (alL M4 a5 405) x 5 (some a5) = M5 at *
  have kx5 : kd M5 x = 11 := s5.2.2.1.trans kx4
  refine z_aload_n g dX10_init_70 rfl ?_
  refine z_new g 1 nw_X10_31 (by omega) (by decide) (by rw [hR]; decide) (by rw [hR]; decide) dX10_init_71 (fun s zs => ?_)
  refine z_dup g dX10_init_74 rfl ?_
  refine z_callI g _ _ ci_X10_33 (c_X0i _ _ s (by rw [kd_al, if_pos rfl])) rfl (by rw [hR]; decide) (by rw [hR]; decide) (by rw [hR]; decide) (Nat.le_of_ble_eq_true rfl) rfl dX10_init_75 (fun _ _ h => False.elim h) (fun r_75 M_75 h_75 => ?_)
  obtain ⟨c, w, l, hc, hw, hl, rfl, rfl⟩ := h_75
  rw [← asgM]
  obtain ⟨s6, ⟨u0, u1, u2⟩, ⟨u3, u4, u5⟩, u6, u7, u8, nsx, ncx, nwx, nlx⟩ := XS_asg (x := x) (by rw [kx5]; decide) zs hc hw hl
  have u9 : kd (asgM M5 s c w l) s = 1 := s6.2.2.2.2.2.1
  have kxa : kd (asgM M5 s c w l) x = 11 := s6.2.2.1.trans kx5
  refine z_putR g fp_X10_34 rfl (by rw [kxa]) (by decide) rfl (fun _ => hI rfl) dX10_init_78 ?_
  have e6 : exo (asgM M5 s c w l) (sR (asgM M5 s c w l) x 6 (some s)) x := fun b _ hb => same.sR hb
  generalize sR (asgM M5 s c w l) x 6 (some s) = M6 at *
  generalize asgM M5 s c w l = M6a at *
  have kx6 : kd M6 x = 11 := s6.2.2.1.trans kx5
  refine z_aload_n g dX10_init_81 rfl ?_
  refine z_iconst (v := 4) g dX10_init_82 (by decide) ?_
  refine z_newI (N := 4) g 175 (by decide) (by decide) ac_int (by decide) (by decide) (by decide) (by rw [hR]; decide) (by rw [hR]; decide) dX10_init_83 (fun a7 za7 => ?_)
  have nx7 : x ≠ a7 := fun z => by rw [z, za7] at kx6; cases kx6
  refine z_putR g fp_X10_38 rfl (by rw [kd_al, if_neg nx7, kx6]) (by decide) rfl (fun _ => hI rfl) dX10_init_85 ?_
  have s7 : XS x 7 a7 175 4 M6 (sR (al M6 a7 175 4) x 7 (some a7)) := XS_arr (by rw [kx6]; decide) za7
  generalize sR (al M6 a7 175 4) x 7 (some a7) = M7 at *
  have kx7 : kd M7 x = 11 := s7.2.2.1.trans kx6
  refine z_aload_n g dX10_init_88 rfl ?_
  refine z_bipush (v := 24) g dX10_init_89 (by decide) ?_
  refine z_newI (N := 24) g 176 (by decide) (by decide) ac_int (by decide) (by decide) (by decide) (by rw [hR]; decide) (by rw [hR]; decide) dX10_init_91 (fun a8 za8 => ?_)
  have nx8 : x ≠ a8 := fun z => by rw [z, za8] at kx7; cases kx7
  refine z_putR g fp_X10_42 rfl (by rw [kd_al, if_neg nx8, kx7]) (by decide) rfl (fun _ => hI rfl) dX10_init_93 ?_
  have s8 : XS x 8 a8 176 24 M7 (sR (al M7 a8 176 24) x 8 (some a8)) := XS_arr (by rw [kx7]; decide) za8
  generalize sR (al M7 a8 176 24) x 8 (some a8) = M8 at *
  have kx8 : kd M8 x = 11 := s8.2.2.1.trans kx7
  refine z_aload_n g dX10_init_96 rfl ?_
  refine z_bipush (v := 9) g dX10_init_97 (by decide) ?_
  refine z_newI (N := 9) g 177 (by decide) (by decide) ac_int (by decide) (by decide) (by decide) (by rw [hR]; decide) (by rw [hR]; decide) dX10_init_99 (fun a9 za9 => ?_)
  have nx9 : x ≠ a9 := fun z => by rw [z, za9] at kx8; cases kx8
  refine z_putR g fp_X10_45 rfl (by rw [kd_al, if_neg nx9, kx8]) (by decide) rfl (fun _ => hI rfl) dX10_init_101 ?_
  have s9 : XS x 9 a9 177 9 M8 (sR (al M8 a9 177 9) x 9 (some a9)) := XS_arr (by rw [kx8]; decide) za9
  generalize sR (al M8 a9 177 9) x 9 (some a9) = M9 at *
  have kx9 : kd M9 x = 11 := s9.2.2.1.trans kx8
  refine z_aload_n g dX10_init_104 rfl ?_
  refine z_iconst (v := 2) g dX10_init_105 (by decide) ?_
  refine z_putI g fp_X10_48 (by rw [kx9]) (by decide) rfl (fun h => nomatch h) dX10_init_106 ?_
  have eA : exo M9 (sI M9 x 13 2) x := fun b _ hb => same.sI hb
  have iA : fI (sI M9 x 13 2) x 13 = 2 ∧ (∀ j, j ≠ 13 → fI (sI M9 x 13 2) x j = fI M9 x j) ∧ fR (sI M9 x 13 2) x = fR M9 x ∧ kd (sI M9 x 13 2) x = 11 := ⟨fI_s, fun j hj => fI_k hj, rfl, kx9⟩
  generalize sI M9 x 13 2 = MA at *
  have e0 := s0.1
  have e1 := s1.1
  have e2 := s2.1
  have e3 := s3.1
  have e4 := s4.1
  have e5 := s5.1
  have e7 := s7.1
  have e8 := s8.1
  have e9 := s9.1
  have E9 : exo M9 MA x := eA
  have E8 : exo M8 MA x := e9.tr E9
  have E7 : exo M7 MA x := e8.tr E8
  have E6 : exo M6 MA x := e7.tr E7
  have E6a : exo M6a MA x := e6.tr E6
  have E5 : exo M5 MA x := (s6.1).tr E6
  have E4 : exo M4 MA x := e5.tr E5
  have E3 : exo M3 MA x := e4.tr E4
  have E2 : exo M2 MA x := e3.tr E3
  have E1 : exo M1 MA x := e2.tr E2
  have E0 : exo M0 MA x := e1.tr E1
  have EM : exo M MA x := e0.tr E0
  have f8 : fR MA x 8 = some a8 := by rw [iA.2.2.1, s9.2.2.2.2.1, if_neg (by decide), s8.2.2.2.2.1, if_pos rfl]
  have F0 : fR MA x 0 = some a0 := by rw [iA.2.2.1, s9.2.2.2.2.1, if_neg (by decide), s8.2.2.2.2.1, if_neg (by decide), s7.2.2.2.2.1, if_neg (by decide), s6.2.2.2.2.1, if_neg (by decide), s5.2.2.2.2.1, if_neg (by decide), s4.2.2.2.2.1, if_neg (by decide), s3.2.2.2.2.1, if_neg (by decide), s2.2.2.2.2.1, if_neg (by decide), s1.2.2.2.2.1, if_neg (by decide), s0.2.2.2.2.1, if_pos rfl]
  have F1 : fR MA x 1 = some a1 := by rw [iA.2.2.1, s9.2.2.2.2.1, if_neg (by decide), s8.2.2.2.2.1, if_neg (by decide), s7.2.2.2.2.1, if_neg (by decide), s6.2.2.2.2.1, if_neg (by decide), s5.2.2.2.2.1, if_neg (by decide), s4.2.2.2.2.1, if_neg (by decide), s3.2.2.2.2.1, if_neg (by decide), s2.2.2.2.2.1, if_neg (by decide), s1.2.2.2.2.1, if_pos rfl]
  have F2 : fR MA x 2 = some a2 := by rw [iA.2.2.1, s9.2.2.2.2.1, if_neg (by decide), s8.2.2.2.2.1, if_neg (by decide), s7.2.2.2.2.1, if_neg (by decide), s6.2.2.2.2.1, if_neg (by decide), s5.2.2.2.2.1, if_neg (by decide), s4.2.2.2.2.1, if_neg (by decide), s3.2.2.2.2.1, if_neg (by decide), s2.2.2.2.2.1, if_pos rfl]
  have F3 : fR MA x 3 = some a3 := by rw [iA.2.2.1, s9.2.2.2.2.1, if_neg (by decide), s8.2.2.2.2.1, if_neg (by decide), s7.2.2.2.2.1, if_neg (by decide), s6.2.2.2.2.1, if_neg (by decide), s5.2.2.2.2.1, if_neg (by decide), s4.2.2.2.2.1, if_neg (by decide), s3.2.2.2.2.1, if_pos rfl]
  have F4 : fR MA x 4 = some a4 := by rw [iA.2.2.1, s9.2.2.2.2.1, if_neg (by decide), s8.2.2.2.2.1, if_neg (by decide), s7.2.2.2.2.1, if_neg (by decide), s6.2.2.2.2.1, if_neg (by decide), s5.2.2.2.2.1, if_neg (by decide), s4.2.2.2.2.1, if_pos rfl]
  have F5 : fR MA x 5 = some a5 := by rw [iA.2.2.1, s9.2.2.2.2.1, if_neg (by decide), s8.2.2.2.2.1, if_neg (by decide), s7.2.2.2.2.1, if_neg (by decide), s6.2.2.2.2.1, if_neg (by decide), s5.2.2.2.2.1, if_pos rfl]
  have F6 : fR MA x 6 = some s := by rw [iA.2.2.1, s9.2.2.2.2.1, if_neg (by decide), s8.2.2.2.2.1, if_neg (by decide), s7.2.2.2.2.1, if_neg (by decide), s6.2.2.2.2.1, if_pos rfl]
  have F7 : fR MA x 7 = some a7 := by rw [iA.2.2.1, s9.2.2.2.2.1, if_neg (by decide), s8.2.2.2.2.1, if_neg (by decide), s7.2.2.2.2.1, if_pos rfl]
  have F8 : fR MA x 8 = some a8 := by rw [iA.2.2.1, s9.2.2.2.2.1, if_neg (by decide), s8.2.2.2.2.1, if_pos rfl]
  have F9 : fR MA x 9 = some a9 := by rw [iA.2.2.1, s9.2.2.2.2.1, if_pos rfl]
  have fx : ∀ j, j ≠ 13 → fI MA x j = 0 := fun j hj => by rw [iA.2.1 j hj, s9.2.2.2.1, s8.2.2.2.1, s7.2.2.2.1, s6.2.2.2.1, s5.2.2.2.1, s4.2.2.2.1, s3.2.2.2.1, s2.2.2.2.1, s1.2.2.2.1, s0.2.2.2.1, hx0 j]
  have G0 := E0 a0 (by rw [s0.2.2.2.2.2.1]; decide) (fun z => nx0 z.symm)
  have g0 : kd MA a0 = 400 := G0.1.symm.trans s0.2.2.2.2.2.1
  have l0 : ln MA a0 = 0 := G0.2.2.2.2.symm.trans s0.2.2.2.2.2.2.1
  have G1 := E1 a1 (by rw [s1.2.2.2.2.2.1]; decide) (fun z => nx1 z.symm)
  have g1 : kd MA a1 = 401 := G1.1.symm.trans s1.2.2.2.2.2.1
  have l1 : ln MA a1 = 0 := G1.2.2.2.2.symm.trans s1.2.2.2.2.2.2.1
  have G2 := E2 a2 (by rw [s2.2.2.2.2.2.1]; decide) (fun z => nx2 z.symm)
  have g2 : kd MA a2 = 402 := G2.1.symm.trans s2.2.2.2.2.2.1
  have l2 : ln MA a2 = 0 := G2.2.2.2.2.symm.trans s2.2.2.2.2.2.2.1
  have G3 := E3 a3 (by rw [s3.2.2.2.2.2.1]; decide) (fun z => nx3 z.symm)
  have g3 : kd MA a3 = 403 := G3.1.symm.trans s3.2.2.2.2.2.1
  have l3 : ln MA a3 = 0 := G3.2.2.2.2.symm.trans s3.2.2.2.2.2.2.1
  have G4 := E4 a4 (by rw [s4.2.2.2.2.2.1]; decide) (fun z => nx4 z.symm)
  have g4 : kd MA a4 = 404 := G4.1.symm.trans s4.2.2.2.2.2.1
  have l4 : ln MA a4 = 0 := G4.2.2.2.2.symm.trans s4.2.2.2.2.2.2.1
  have G5 := E5 a5 (by rw [s5.2.2.2.2.2.1]; decide) (fun z => nx5 z.symm)
  have g5 : kd MA a5 = 405 := G5.1.symm.trans s5.2.2.2.2.2.1
  have l5 : ln MA a5 = 0 := G5.2.2.2.2.symm.trans s5.2.2.2.2.2.2.1
  have G7 := E7 a7 (by rw [s7.2.2.2.2.2.1]; decide) (fun z => nx7 z.symm)
  have g7 : kd MA a7 = 175 := G7.1.symm.trans s7.2.2.2.2.2.1
  have l7 : ln MA a7 = 4 := G7.2.2.2.2.symm.trans s7.2.2.2.2.2.2.1
  have G8 := E8 a8 (by rw [s8.2.2.2.2.2.1]; decide) (fun z => nx8 z.symm)
  have g8 : kd MA a8 = 176 := G8.1.symm.trans s8.2.2.2.2.2.1
  have l8 : ln MA a8 = 24 := G8.2.2.2.2.symm.trans s8.2.2.2.2.2.2.1
  have G9 := E9 a9 (by rw [s9.2.2.2.2.2.1]; decide) (fun z => nx9 z.symm)
  have g9 : kd MA a9 = 177 := G9.1.symm.trans s9.2.2.2.2.2.1
  have l9 : ln MA a9 = 9 := G9.2.2.2.2.symm.trans s9.2.2.2.2.2.2.1
  have z7 : ∀ j, fI MA a7 j = 0 := fun j => (congrFun G7.2.1 j).symm.trans (s7.2.2.2.2.2.2.2 j)
  have Gs := E6 s (by rw [s6.2.2.2.2.2.1]; decide) nsx
  have gs : kd MA s = 1 := Gs.1.symm.trans s6.2.2.2.2.2.1
  have Gs2 := E6a s (by rw [u9]; decide) nsx
  have p0 : fR MA s 0 = some c := (congrFun Gs2.2.2.2.1 0).symm.trans u0
  have p1 : fR MA s 1 = some w := (congrFun Gs2.2.2.2.1 1).symm.trans u1
  have p2 : fR MA s 2 = some l := (congrFun Gs2.2.2.2.1 2).symm.trans u2
  have Gc := E6a c (by rw [u3]; decide) ncx
  have Gw := E6a w (by rw [u4]; decide) nwx
  have Gl := E6a l (by rw [u5]; decide) nlx
  have gc : kd MA c = 172 := Gc.1.symm.trans u3
  have gw : kd MA w = 173 := Gw.1.symm.trans u4
  have gl : kd MA l = 174 := Gl.1.symm.trans u5
  have lc : ln MA c = 4 := Gc.2.2.2.2.symm.trans u6
  have lw : ln MA w = 16 := Gw.2.2.2.2.symm.trans u7
  have ll : ln MA l = 16 := Gl.2.2.2.2.symm.trans u8
  have kxA := iA.2.2.2
  have loop : ∀ (k i : Nat) (M1 : Mm) (Tf Rf : Nat → Nat) (hk : k + i = 4) (ht : TBs a3 MA M1 i Tf Rf), Z X M1 (14 + 3 * i) (100 + 178 * i) 111 [(0, .ref x), (1, .int (nI i))] [] := by
    intro k
    induction k using Nat.strongRecOn with
    | _ k ih =>
      intro i M1 Tf Rf hk ht
      have c10 : (cds 10).length = 1 := rfl
      have kxL : kd M1 x = 11 := ((ht.1 x (by rw [kxA]; decide) (fun z => by rw [z, g3] at kxA; cases kxA)).1).symm.trans kxA
      have rx3 : fR M1 x 3 = some a3 := (congrFun ((ht.1 x (by rw [kxA]; decide) (fun z => by rw [z, g3] at kxA; cases kxA)).2.2.2.1) 3).symm.trans F3
      refine z_iload_n g dX10_init_111 rfl ?_
      refine z_iconst (v := 4) g dX10_init_112 (by decide) ?_
      refine z_icmp_ge (tgt := 137) g dX10_init_113 (by decide) (fun c_113 => ?_) (fun c_113 => ?_)
      · rw [show (4 : Int32) = nI 4 from rfl, nI_leI (by decide) (by omega)] at c_113
        have hi4 : i = 4 := by omega
        subst hi4
        exact z_vret g hrt (by decide) (by omega) dX10_init_137 (⟨nB a0 a1 a2 a3 a4 a5 s c w l a7 a8 a9 Tf Rf, rfl, new_RX kxA fx iA.1 ⟨F0, F1, F2, F3, F4, F5, F6, F7, F8, F9⟩ ⟨g0, g1, g2, g3, g4, g5⟩ ⟨gs, gc, gw, gl, g7, g8, g9⟩ ⟨p0, p1, p2⟩ ⟨l0, l1, l2, l4, l5⟩ ⟨l7, l8, l9, lc, lw, ll⟩ z7 ht, fun b hb hbx => by
          have s9 := EM b hb hbx
          have k9 : kd MA b ≠ 0 := by rw [← s9.1]; exact hb
          exact s9.tr (ht.1 b k9 (fun z => by
            rw [z] at hb hbx
            exact hb ((((e0.tr e1).tr e2) a3 hb hbx).1.trans za3)))⟩)
      have h113 : i < 4 := by rw [show (4 : Int32) = nI 4 from rfl, nI_leI (by decide) (by omega)] at c_113; omega
      refine z_aload_n g dX10_init_116 rfl ?_
      refine z_getR g fl_X10_22 (by rw [kxL]) (by decide) rfl rx3 dX10_init_117 ?_
      refine z_new g (10 + 1000 * i) nw_X10_52 (by omega) (by decide) (by rw [hR]; show _ ≤ 30; omega) (by rw [hR]; show _ ≤ 900; omega) dX10_init_120 (fun t zt => ?_)
      refine z_dup g dX10_init_123 rfl ?_
      refine z_callI g _ _ ci_X10_54 (c_X9i _ _ t (171 + 1000 * i) (by rw [kd_al, if_pos rfl]; omega) (by omega)) rfl (by rw [hR]; decide) (by rw [hR]; show _ ≤ 30; omega) (by rw [hR]; show _ ≤ 900; omega) (Nat.le_of_ble_eq_true rfl) rfl dX10_init_124 (fun _ _ h => False.elim h) (fun r_124 M_124 h_124 => ?_)
      obtain ⟨a, Sv, za, rfl, rfl, hSv⟩ := h_124
      rw [← tbM]
      obtain ⟨hw, nat, -⟩ := tb_nwc (S := Sv) zt za
      have LKn := LK_nwc hw (TBs_LK ht (by omega)) (by decide)
      have lnL : ln (tbM M1 i t a Sv) a3 = i := (nwc_ln hw (by rw [ht.2.1]; decide)).trans ht.2.2.1
      have ktn : kd (tbM M1 i t a Sv) t % 1000 = 10 := by
        show kd (al (al M1 t (10 + 1000 * i) 0) a (171 + 1000 * i) 27) t % 1000 = 10
        rw [kd_al, if_neg (fun z => nat z.symm), kd_al, if_pos rfl]; omega
      refine z_callL g _ _ cv_X10_55 rfl (c_add2 _ (tbM M1 i t a Sv) a3 t LKn (by decide) (by decide) (by rw [lnL]; omega) ktn) LKn.1 rfl (by rw [hR]; decide) (by rw [hR]; show _ ≤ 30; omega) (by rw [hR]; show _ ≤ 900; omega) (Nat.le_of_ble_eq_true rfl) rfl dX10_init_127 (fun _ _ h => False.elim h) (fun r_127 M_127 h_127 => ?_)
      obtain ⟨rfl, rfl⟩ := h_127
      refine z_pop g dX10_init_130 rfl ?_
      refine z_iinc1 g dX10_init_131 rfl (by rw [hN]; decide) ?_
      refine z_goto (tgt := 111) g dX10_init_134 (by decide) ?_
      rw [nI_s]
      exact z_to (z_wid (by omega) (by omega) (ih (k - 1) (by omega) (i + 1) _ _ _ (by omega) (TBs_step ht zt za hSv))) ⟨rfl, rfl, trivial⟩
  refine z_iconst (v := 0) g dX10_init_109 (by decide) ?_
  refine z_istore_n g dX10_init_110 (by rw [hN]; decide) ?_
  exact z_to (z_wid (by decide) (by decide) (loop 4 0 MA (fun _ => 0) (fun _ => 0) rfl ⟨fun b _ _ => same.rf, g3, l3, fun t ht => absurd ht (Nat.not_lt_zero t)⟩)) ⟨rfl, rfl, trivial⟩
