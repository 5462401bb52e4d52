def same (M M1 : Mm) (b : Nat) : Prop := kd M b = kd M1 b ∧ fI M b = fI M1 b ∧ fL M b = fL M1 b ∧ fR M b = fR M1 b ∧ ln M b = ln M1 b
theorem same.rf {M : Mm} {b : Nat} : same M M b := ⟨rfl, rfl, rfl, rfl, rfl⟩
theorem same.tr {M1 M2 M3 : Mm} {b : Nat} (h : same M1 M2 b) (h2 : same M2 M3 b) : same M1 M3 b := ⟨h.1.trans h2.1, h.2.1.trans h2.2.1, h.2.2.1.trans h2.2.2.1, h.2.2.2.1.trans h2.2.2.2.1, h.2.2.2.2.trans h2.2.2.2.2⟩
theorem same.sI {M : Mm} {a k : Nat} {v : Int32} {b : Nat} (h : b ≠ a) : same M (sI M a k v) b := ⟨rfl, (up2_na _ _ h).symm, rfl, rfl, rfl⟩
theorem same.sR {M : Mm} {a k : Nat} {v : Option Nat} {b : Nat} (h : b ≠ a) : same M (sR M a k v) b := ⟨rfl, rfl, rfl, (up2_na _ _ h).symm, rfl⟩
theorem same.sW {M : Mm} {a : Nat} {f : Nat → Option Nat} {b : Nat} (h : b ≠ a) : same M (sW M a f) b := ⟨rfl, rfl, rfl, (up1_n _ _ h).symm, rfl⟩
theorem same.sN {M : Mm} {a n : Nat} {b : Nat} (h : b ≠ a) : same M (sN M a n) b := ⟨rfl, rfl, rfl, rfl, (up1_n _ _ h).symm⟩
theorem same.sL {M : Mm} {a k : Nat} {v : Int64} {b : Nat} (h : b ≠ a) : same M (sL M a k v) b := ⟨rfl, rfl, (up2_na _ _ h).symm, rfl, rfl⟩
theorem same.sK {M : Mm} {a c : Nat} {b : Nat} (h : b ≠ a) : same M (sK M a c) b := ⟨(up1_n _ _ h).symm, rfl, rfl, rfl, rfl⟩
theorem same.al {M : Mm} {a c n : Nat} {b : Nat} (h : b ≠ a) : same M (al M a c n) b := ⟨(up1_n _ _ h).symm, (up1_n _ _ h).symm, (up1_n _ _ h).symm, (up1_n _ _ h).symm, (up1_n _ _ h).symm⟩
def adPost (M : Mm) (a e s v : Nat) : Option Value → Mm → Prop := fun r M' => r = none ∧ ∃ e' : Nat, fR M' a 1 = some e' ∧ kd M' a = 20 ∧ fI M' a 2 = nI (s + 1) ∧ kd M' e' = 300 ∧ s + 1 ≤ ln M' e' ∧ ln M' e' ≤ 150 ∧ (∀ i, i < s → fR M' e' i = fR M e i) ∧ fR M' e' s = some v ∧ ((e' = e ∧ kd M e = 300) ∨ kd M e' = 0) ∧ (∀ b, b ≠ a → b ≠ e' → kd M b ≠ 0 → same M M' b)
set_option maxHeartbeats 4000000 in
set_option maxRecDepth 100000 in
theorem c_add3 (E : Ev) (M : Mm) (a v e s : Nat) (ka : kd M a = 20) (k2 : fR M a 1 = some e) (k3 : fI M a 2 = nI s) (hs2 : s < 100) (he : (e = E.2.2.2.2 ∧ kd M e = 390 ∧ s = 0 ∧ ln M e = 0) ∨ (e ≠ E.2.2.2.2 ∧ kd M e = 300 ∧ s ≤ ln M e ∧ ln M e ≤ 150)) (hv : 1 ≤ kd M v % 1000 ∧ kd M v % 1000 ≤ 11) (hel : ∀ i, i < s → ∀ y, fR M e i = some y → 1 ≤ kd M y % 1000 ∧ kd M y % 1000 ≤ 11) : CT E yJx4a65c_add_72be8 cJx4a65c_add_72be8 4 none 6 1 150 [.ref a, .ref v, .ref e, .int (nI s)] M (adPost M a e s v) noX := by
  refine CT.of rfl (Nat.le_of_ble_eq_true rfl) (fun X g hrt hno hE hN hR hI => ?_)
  subst hE
  have ke : 300 ≤ kd M e % 1000 ∧ kd M e % 1000 < 400 := by rcases he with ⟨-, y, -⟩ | ⟨-, y, -⟩ <;> rw [y] <;> decide
  have hle : s ≤ ln M e := by rcases he with ⟨-, -, y, z⟩ | ⟨-, -, y, -⟩; omega; exact y
  have hle2 : ln M e ≤ 150 := by rcases he with ⟨-, -, y, z⟩ | ⟨-, -, -, y⟩; omega; exact y
  have join : ∀ (M1 : Mm) (e1 : Nat), fR M1 a 1 = some e1 → kd M1 a = 20 → kd M1 e1 = 300 → s < ln M1 e1 → ln M1 e1 ≤ 150 → (1 ≤ kd M1 v % 1000 ∧ kd M1 v % 1000 ≤ 11) → (∀ i, i < s → fR M1 e1 i = fR M e i) → ((e1 = e ∧ kd M e = 300) ∨ kd M e1 = 0) → (∀ b, b ≠ a → b ≠ e1 → kd M b ≠ 0 → same M M1 b) → Z X M1 1 150 11 [(0, .ref a), (1, .ref v), (2, .ref e1), (3, .int (nI s))] [] := by
    intro M1 e1 j1 j2 j3 j4 j5 j6 j7 j8 j9
    have hea : e1 ≠ a := fun z => by rw [z, j2] at j3; cases j3
    refine z_aload_n g dJx4a65c_add_72be8_11 rfl ?_
    refine z_iload_n g dJx4a65c_add_72be8_12 rfl ?_
    refine z_aload_n g dJx4a65c_add_72be8_13 rfl ?_
    refine z_aast (k := 300) g (by rw [j3]) (by decide) (vp_in_nI j4 (by omega)) j6.1 j6.2 dJx4a65c_add_72be8_14 ?_
    rw [nI_clamp (show s < 2 ^ 31 by omega)]
    refine z_aload_n g dJx4a65c_add_72be8_15 rfl ?_
    refine z_iload_n g dJx4a65c_add_72be8_16 rfl ?_
    refine z_iconst (v := 1) g dJx4a65c_add_72be8_17 (by decide) ?_
    refine z_iadd g dJx4a65c_add_72be8_18 ?_
    rw [nI_1]
    refine z_putI g fp_Jx4a65c_48 (by show kd M1 a % 1000 = 20; rw [j2]) (by decide) rfl (fun h => nomatch h) dJx4a65c_add_72be8_19 ?_
    exact z_vret g hrt (by decide) (by decide) dJx4a65c_add_72be8_22 ⟨rfl, e1, (by rw [fR_sI, fR_sR, if_neg (fun z => hea z.1.symm)]; exact j1), j2, (by rw [fI_sI, if_pos ⟨rfl, rfl⟩]), j3, j4, j5, (fun i hi => by rw [fR_sI, fR_sR, if_neg (fun z => by omega)]; exact j7 i hi), (by rw [fR_sI, fR_sR, if_pos ⟨rfl, rfl⟩]), j8, fun b b1 b2 b3 => (j9 b b1 b2 b3).tr ((same.sR b2).tr (same.sI b1))⟩
  refine z_iload_n g dJx4a65c_add_72be8_0 rfl ?_
  refine z_aload_n g dJx4a65c_add_72be8_1 rfl ?_
  refine z_alenR g ke.1 ke.2 dJx4a65c_add_72be8_2 ?_
  refine z_icmp_ne (tgt := 11) g dJx4a65c_add_72be8_3 (by decide) (fun c_3 => ?_) (fun c_3 => ?_)
  · have hlt : s < ln M e := by
      rcases Nat.lt_or_ge s (ln M e) with q | q
      · exact q
      · exact absurd (congrArg nI (Nat.le_antisymm hle q)) c_3
    have he3 : kd M e = 300 := by rcases he with ⟨-, -, y, z⟩ | ⟨-, y, -⟩; omega; exact y
    refine z_wid (k := 1) (n := 150) (by decide) (by decide) (z_loc (L' := [(0, .ref a), (1, .ref v), (2, .ref e), (3, .int (nI s))]) ⟨rfl, rfl, rfl, rfl, trivial⟩ ?_)
    exact join M e k2 ka he3 hlt hle2 hv (fun _ _ => rfl) (Or.inl ⟨rfl, he3⟩) (fun _ _ _ _ => same.rf)
  · refine z_aload_n g dJx4a65c_add_72be8_6 rfl ?_
    have hsl : ln M e = s := ((nI_eq (by omega) (by omega)).mp c_3).symm
    refine z_callV g _ _ cv_Jx4a65c_129 (c_grow0 _ M a e s ka k2 hsl hs2 (he.imp (fun z => ⟨z.1, z.2.1, z.2.2.1⟩) (fun z => ⟨z.1, z.2.1⟩)) hel k3) (by rw [ka]) (by decide) rfl (by rw [hR]; decide) (by rw [hR]; decide) (by rw [hR]; decide) (Nat.le_of_ble_eq_true rfl) rfl dJx4a65c_add_72be8_7 (fun _ _ h => False.elim h) (fun r_7 M_7 h_7 => ?_)
    obtain ⟨b, n, h, rfl, hb, h1, h2, h3, rfl⟩ := h_7
    have hne : a ≠ b := fun z => by rw [z, hb] at ka; cases ka
    have hnv : v ≠ b := fun z => by rw [z, hb] at hv; exact absurd hv.1 (by decide)
    refine z_astore_n g dJx4a65c_add_72be8_10 (by rw [hN]; decide) ?_
    refine z_loc (L' := [(0, .ref a), (1, .ref v), (2, .ref b), (3, .int (nI s))]) ⟨rfl, rfl, rfl, rfl, trivial⟩ ?_
    exact join _ b (by rw [fR_sR, if_pos ⟨rfl, rfl⟩]) (by rw [kd_sR, kd_sW, kd_al, if_neg hne, ka]) (by rw [kd_sR, kd_sW, kd_al, if_pos rfl]) (by rw [ln_sR, ln_sW, ln_al, if_pos rfl]; exact h1) (by rw [ln_sR, ln_sW, ln_al, if_pos rfl]; exact h2) (by rw [kd_sR, kd_sW, kd_al, if_neg hnv]; exact hv) (fun i hi => by rw [fR_sR, if_neg (fun z => hne z.1.symm), fR_sW, if_pos rfl]; exact h3 i hi) (Or.inr hb) (fun c c1 c2 c3 => (same.al c2).tr ((same.sW c2).tr (same.sR c1)))
set_option maxHeartbeats 4000000 in
set_option maxRecDepth 100000 in
theorem c_add1 (E : Ev) (M : Mm) (a v : Nat) (ha : 400 ≤ kd M a % 1000) (hl : ln M a < 100) (hv : 1 ≤ kd M v % 1000 ∧ kd M v % 1000 ≤ 11) (hel : ∀ i, i < ln M a → ∀ y, fR M a i = some y → 1 ≤ kd M y % 1000 ∧ kd M y % 1000 ≤ 11) : CT E yJx4a65c_add_9ea2d cJx4a65c_add_9ea2d 2 (some .boolean) 7 1 150 [.ref a, .ref v] M (fun r M' => r = some (.int 1) ∧ sR (sN M a (ln M a + 1)) a (ln M a) (some v) = M') noX := by
  refine CT.of rfl (Nat.le_of_ble_eq_true rfl) (fun X g hrt hno hE hN hR hI => ?_)
  subst hE
  refine z_open (a := a) ha (fun e n f mc ro h3 => ?_)
  have k1 : kd (opn M a e n f mc) a = 20 := by rw [kd_opn, if_pos rfl]
  have k1' : kd (opn M a e n f mc) a % 1000 = 20 := by rw [k1]
  obtain ⟨q1, q2, q3, q4⟩ := opn_row (mc := mc) ro h3
  have hea : e ≠ a := ro.2.2.2.1
  have hka : kd M a ≠ 0 := fun z => by rw [z] at ha; simp at ha
  have kO : ∀ y, 1 ≤ kd M y % 1000 ∧ kd M y % 1000 ≤ 11 → kd (opn M a e n f mc) y = kd M y := fun y hy => (opn_else ro h3 (fun z => by subst z; omega) (fun z => by rw [z] at hy; exact absurd hy.1 (by decide))).1.symm
  have row : ∀ i, i < ln M a → fR (opn M a e n f mc) e i = fR M a i := fun i hi => by rw [q4]; exact ro.2.2.1 i hi
  have hce : (e = (xE X).2.2.2.2 ∧ kd (opn M a e n f mc) e = 390 ∧ ln M a = 0 ∧ ln (opn M a e n f mc) e = 0) ∨ (e ≠ (xE X).2.2.2.2 ∧ kd (opn M a e n f mc) e = 300 ∧ ln M a ≤ ln (opn M a e n f mc) e ∧ ln (opn M a e n f mc) e ≤ 150) := by
    rcases ro.2.2.2.2 with ⟨y1, y2, y3, y4, y5⟩ | ⟨y1, y2⟩
    · exact Or.inl ⟨y1, by rw [kd_opn, if_neg hea, if_pos rfl, if_pos (by rw [y1]; exact h3)], y2, by rw [q3]; exact y3⟩
    · exact Or.inr ⟨y1, by rw [kd_opn, if_neg hea, if_pos rfl, y2]; rfl, by rw [q3]; exact ro.1, by rw [q3]; exact ro.2.1⟩
  refine z_aload_n g dJx4a65c_add_9ea2d_0 rfl ?_
  refine z_dup g dJx4a65c_add_9ea2d_1 rfl ?_
  refine z_getI g fl_Jx4a65c_63 k1' (by decide) rfl dJx4a65c_add_9ea2d_2 ?_
  refine z_iconst (v := 1) g dJx4a65c_add_9ea2d_5 (by decide) ?_
  refine z_iadd g dJx4a65c_add_9ea2d_6 ?_
  refine z_putI g fp_Jx4a65c_63 k1' (by decide) rfl (fun h => nomatch h) dJx4a65c_add_9ea2d_7 ?_
  refine z_aload_n g dJx4a65c_add_9ea2d_10 rfl ?_
  refine z_aload_n g dJx4a65c_add_9ea2d_11 rfl ?_
  refine z_aload_n g dJx4a65c_add_9ea2d_12 rfl ?_
  refine z_getR g fl_Jx4a65c_9 k1' (by decide) rfl (fR_opn1 (mc := mc)) dJx4a65c_add_9ea2d_13 ?_
  refine z_aload_n g dJx4a65c_add_9ea2d_16 rfl ?_
  refine z_getI g fl_Jx4a65c_48 k1' (by decide) rfl dJx4a65c_add_9ea2d_17 ?_
  rw [show fI (sI (opn M a e n f mc) a 0 (fI (opn M a e n f mc) a 0 + 1)) a 2 = nI (ln M a) by rw [fI_sI, if_neg (fun z => by cases z.2), fI_opn2]]
  refine z_callV g _ _ cv_Jx4a65c_131 (c_add3 _ _ a v e (ln M a) k1 (fR_opn1 (mc := mc)) (by rw [fI_sI, if_neg (fun z => by cases z.2), fI_opn2]) hl hce (by show 1 ≤ kd (opn M a e n f mc) v % 1000 ∧ kd (opn M a e n f mc) v % 1000 ≤ 11; rw [kO v hv]; exact hv) (fun i hi y hy => by show 1 ≤ kd (opn M a e n f mc) y % 1000 ∧ kd (opn M a e n f mc) y % 1000 ≤ 11; have h8 := hel i hi y ((row i hi).symm.trans hy); rw [kO y h8]; exact h8)) k1' (by decide) rfl (by rw [hR]; decide) (by rw [hR]; decide) (by rw [hR]; decide) (Nat.le_of_ble_eq_true rfl) rfl dJx4a65c_add_9ea2d_20 (fun _ _ h => False.elim h) (fun r_20 M_20 h_20 => ?_)
  obtain ⟨rfl, e', j1, j2, j3, j4, j5, j6, j7, j8, j9, j10⟩ := h_20
  have j9' : e' = (xE X).2.2.2.2 ∨ kd M e' = 0 := by
    rcases j9 with ⟨z1, z2⟩ | z
    · rw [z1]; exact q2
    · refine Or.inr ?_
      by_cases y : kd M e' = 0
      · exact y
      · have hea' : e' ≠ a := fun z9 => by rw [z9, j2] at j4; cases j4
        rw [(opn_else (mc := mc) ro h3 hea' y).1]; exact z
  have hEe : (xE X).2.2.2.2 ≠ e' := by
    intro z
    rcases j9 with ⟨z1, z2⟩ | z2
    · have hzz : (xE X).2.2.2.2 = e := z.trans z1
      have h8 : kd (opn M a e n f mc) e = 390 := hce.elim (fun y => y.2.1) (fun y => absurd hzz.symm y.1)
      exact absurd (h8.symm.trans z2) (by decide)
    · have h8 : kd M e' ≠ 0 := by rw [← z, h3]; decide
      have hea' : e' ≠ a := fun z9 => by rw [z9, j2] at j4; cases j4
      rw [(opn_else (mc := mc) ro h3 hea' h8).1] at h8
      exact h8 z2
  refine z_iconst (v := 1) g dJx4a65c_add_9ea2d_23 (by decide) ?_
  refine z_close (M' := sR (sN M a (ln M a + 1)) a (ln M a) (some v)) (c := kd M a) j2 j1 (by rw [ln_sR, ln_sN, if_pos rfl]; exact j3) (Or.inr ⟨j4, by rw [ln_sR, ln_sN, if_pos rfl]; exact j5, j6⟩) ha rfl (j9'.imp (fun z => z) (fun z => z)) (fun b b1 b2 => ?_) (by show kd M _ ≠ 0; rw [h3]; decide) (fun i hi => ?_) ?_
  · have b3 : b ≠ e' := fun z => by
      rcases j9' with z9 | z9
      · exact hEe z9.symm
      · rw [z] at b2; exact b2 z9
    have hs := opn_else (mc := mc) ro h3 b1 b2
    have hs2 : same (opn M a e n f mc) M_20 b := (same.sI b1).tr (j10 b b1 b3 (by show kd (opn M a e n f mc) b ≠ 0; rw [← hs.1]; exact b2))
    have hs3 : same (sR (sN M a (ln M a + 1)) a (ln M a) (some v)) M b := by
      have h8 : same M (sR (sN M a (ln M a + 1)) a (ln M a) (some v)) b := (same.sN b1).tr (same.sR b1)
      exact ⟨h8.1.symm, h8.2.1.symm, h8.2.2.1.symm, h8.2.2.2.1.symm, h8.2.2.2.2.symm⟩
    exact hs3.tr (same.tr hs hs2)
  · rw [ln_sR, ln_sN, if_pos rfl] at hi
    rw [fR_sR, fR_sN]
    by_cases z : i = ln M a
    · rw [if_pos ⟨rfl, z⟩, z]; exact j8.symm
    · rw [if_neg (fun y => z y.2), j7 i (by omega)]
      exact (row i (by omega)).symm
  · exact z_iret g hrt (by decide) (by decide) (by decide) dJx4a65c_add_9ea2d_24 ⟨rfl, rfl⟩
