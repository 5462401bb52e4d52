theorem z_closeL {X : Cx} {M M2 : Mm} {cs sl pc a e e' n len : Nat} {f g : Nat → Option Nat} {mc : Int32} {L : List (Nat × Value)} {st : List Value} (ro : rowOK M (xE X).2.2.2.2 a e n f) (h3 : kd M (xE X).2.2.2.2 = 390) (ha : 400 ≤ kd M a % 1000) (j2 : kd M2 a = 20) (j1 : fR M2 a 1 = some e') (j3 : fI M2 a 2 = nI len) (j4 : kd M2 e' = 300) (j5 : len ≤ ln M2 e') (j6 : ln M2 e' ≤ 150)
    (j9 : (e' = e ∧ kd (opn M a e n f mc) e = 300) ∨ kd (opn M a e n f mc) e' = 0) (j10 : ∀ b, b ≠ a → b ≠ e' → kd (opn M a e n f mc) b ≠ 0 → same (opn M a e n f mc) M2 b) (hrow : ∀ i, i < len → fR M2 e' i = g i) (kk : Z X (sN (sW M a g) a len) cs sl pc L st) : Z X M2 cs sl pc L st := by
  obtain ⟨q1, q2, q3, q4⟩ := opn_row (mc := mc) ro h3
  have hea : e ≠ a := ro.2.2.2.1
  have hea' : e' ≠ a := fun z9 => by rw [z9, j2] at j4; cases j4
  have hce : (e = (xE X).2.2.2.2 ∧ kd (opn M a e n f mc) e = 390) ∨ e ≠ (xE X).2.2.2.2 := by
    rcases ro.2.2.2.2 with ⟨y1, y2, y3, y4, y5⟩ | ⟨y1, y2⟩
    · exact Or.inl ⟨y1, by rw [kd_opn, if_neg hea, if_pos rfl, if_pos (by rw [y1]; exact h3)]⟩
    · exact Or.inr y1
  have j9' : e' = (xE X).2.2.2.2 ∨ kd M e' = 0 := by
    rcases j9 with ⟨z1, z2⟩ | z
    · rw [z1]; exact q2
    · refine Or.inr ?_
      by_cases y : kd M e' = 0
      · exact y
      · rw [(opn_else (mc := mc) ro h3 hea' y).1]; exact z
  have hEe : (xE X).2.2.2.2 ≠ e' := by
    intro z
    rcases j9 with ⟨z1, z2⟩ | z2
    · have h8 : kd (opn M a e n f mc) e = 390 := hce.elim (fun y => y.2) (fun y => absurd (z.trans z1).symm y)
      exact absurd (h8.symm.trans z2) (by decide)
    · have h8 : kd M e' ≠ 0 := by rw [← z, h3]; decide
      rw [(opn_else (mc := mc) ro h3 hea' h8).1] at h8
      exact h8 z2
  have hl : ln (sN (sW M a g) a len) a = len := by rw [ln_sN, if_pos rfl]
  refine z_close (M' := sN (sW M a g) a len) (c := kd M a) j2 j1 (by rw [hl]; exact j3) (Or.inr ⟨j4, by rw [hl]; exact j5, j6⟩) ha rfl (j9'.imp (fun z => z) (fun z => z)) (fun b b1 b2 => ?_) (by show kd M _ ≠ 0; rw [h3]; decide) (fun i hi => ?_) kk
  · have b3 : b ≠ e' := fun z => by
      rcases j9' with z9 | z9
      · exact hEe z9.symm
      · rw [z] at b2; exact b2 z9
    have hs := opn_else (mc := mc) ro h3 b1 b2
    have hs2 : same (opn M a e n f mc) M2 b := j10 b b1 b3 (by rw [← hs.1]; exact b2)
    have hs3 : same (sN (sW M a g) a len) M b := by
      have h8 : same M (sN (sW M a g) a len) b := (same.sW b1).tr (same.sN b1)
      exact ⟨h8.1.symm, h8.2.1.symm, h8.2.2.1.symm, h8.2.2.2.1.symm, h8.2.2.2.2.symm⟩
    exact hs3.tr (same.tr hs hs2)
  · rw [hl] at hi
    rw [fR_sN, fR_sW, if_pos rfl]
    exact (hrow i hi).symm
theorem gt_e {n : Nat} (hn : n < 2 ^ 31) : nI n ≤ 0 ↔ n = 0 := by
  constructor
  · intro h
    rcases Nat.eq_zero_or_pos n with z | z
    · exact z
    · exact absurd h (nI_nle z hn)
  · intro h; rw [h]; decide
def rmPost (M : Mm) (a e s : Nat) : Option Value → Mm → Prop := fun r M' => r = none ∧ (∀ b, kd M' b = kd M b) ∧ fR M' a 1 = fR M a 1 ∧ fI M' a 2 = nI s ∧ ln M' e = ln M e ∧ (∀ i, i < s → fR M' e i = fR M e (i + 1)) ∧ (∀ b, b ≠ a → b ≠ e → same M M' b)
set_option maxHeartbeats 4000000 in
set_option maxRecDepth 100000 in
theorem c_frem (E : Ev) (M : Mm) (a e s : Nat) (ka : kd M a = 20) (k3 : fI M a 2 = nI (s + 1)) (ke : kd M e = 300) (hs : s + 1 ≤ ln M e) (hs2 : ln M e ≤ 150) (hel : ∀ i, i < s + 1 → ∀ y, fR M e i = some y → 1 ≤ kd M y % 1000 ∧ kd M y % 1000 ≤ 11) : CT E yJx4a65c_fastRemove_b59b0 cJx4a65c_fastRemove_b59b0 4 none 2 0 0 [.ref a, .ref e, .int 0] M (rmPost M a e s) noX := by
  refine CT.of rfl (Nat.le_of_ble_eq_true rfl) (fun X g hrt hno hE hN hR hI => ?_)
  subst hE
  have hea : e ≠ a := fun z => by rw [z, ka] at ke; cases ke
  have join : ∀ (M1 : Mm), (∀ b, kd M1 b = kd M b) → fR M1 a 1 = fR M a 1 → ln M1 e = ln M e → (∀ i, i < s → fR M1 e i = fR M e (i + 1)) → (∀ b, b ≠ a → b ≠ e → same M M1 b) → Z X M1 0 0 34 [(0, .ref a), (1, .ref e), (2, .int 0), (3, .int (nI s))] [] := by
    intro M1 j1 j2 j3 j4 j5
    refine z_aload_n g dJx4a65c_fastRemove_b59b0_34 rfl ?_
    refine z_aload_n g dJx4a65c_fastRemove_b59b0_35 rfl ?_
    refine z_iload_n g dJx4a65c_fastRemove_b59b0_36 rfl ?_
    refine z_dup_x1 g dJx4a65c_fastRemove_b59b0_37 rfl rfl ?_
    refine z_putI g fp_Jx4a65c_48 (by rw [j1, ka]) (by decide) rfl (fun h => nomatch h) dJx4a65c_fastRemove_b59b0_38 ?_
    refine z_null g dJx4a65c_fastRemove_b59b0_41 ?_
    refine z_aastN (k := 300) g (by show kd M1 e % 1000 = 300; rw [j1, ke]) (by decide) (vp_in_nI (by show s < ln M1 e; rw [j3]; omega) (by show ln M1 e < 2 ^ 31; omega)) dJx4a65c_fastRemove_b59b0_42 ?_
    rw [nI_clamp (show s < 2 ^ 31 by omega)]
    exact z_vret g hrt (by decide) (by decide) dJx4a65c_fastRemove_b59b0_43 ⟨rfl, j1, (by rw [fR_sR, if_neg (fun z => hea z.1.symm)]; exact j2), (by rw [fI_sR, fI_sI, if_pos ⟨rfl, rfl⟩]), j3, (fun i hi => by rw [fR_sR, if_neg (fun z => by omega)]; exact j4 i hi), fun b b1 b2 => (j5 b b1 b2).tr ((same.sI b1).tr (same.sR b2))⟩
  refine z_aload_n g dJx4a65c_fastRemove_b59b0_0 rfl ?_
  refine z_dup g dJx4a65c_fastRemove_b59b0_1 rfl ?_
  refine z_getI g fl_Jx4a65c_63 (by rw [ka]) (by decide) rfl dJx4a65c_fastRemove_b59b0_2 ?_
  refine z_iconst (v := 1) g dJx4a65c_fastRemove_b59b0_5 (by decide) ?_
  refine z_iadd g dJx4a65c_fastRemove_b59b0_6 ?_
  refine z_putI g fp_Jx4a65c_63 (by rw [ka]) (by decide) rfl (fun h => nomatch h) dJx4a65c_fastRemove_b59b0_7 ?_
  refine z_aload_n g dJx4a65c_fastRemove_b59b0_10 rfl ?_
  refine z_getI g fl_Jx4a65c_48 (by show kd M a % 1000 = 20; rw [ka]) (by decide) rfl dJx4a65c_fastRemove_b59b0_11 ?_
  rw [show fI (sI M a 0 (fI M a 0 + 1)) a 2 = nI (s + 1) by rw [fI_sI, if_neg (fun z => by cases z.2)]; exact k3]
  refine z_iconst (v := 1) g dJx4a65c_fastRemove_b59b0_14 (by decide) ?_
  refine z_isub g dJx4a65c_fastRemove_b59b0_15 ?_
  rw [nI_pred]
  refine z_dup g dJx4a65c_fastRemove_b59b0_16 rfl ?_
  refine z_istore_n g dJx4a65c_fastRemove_b59b0_17 (by rw [hN]; decide) ?_
  refine z_iload_n g dJx4a65c_fastRemove_b59b0_18 rfl ?_
  refine z_icmp_le (tgt := 34) g dJx4a65c_fastRemove_b59b0_19 (by decide) (fun c_19 => ?_) (fun c_19 => ?_)
  · have hs0 : s = 0 := (gt_e (by omega)).mp c_19
    refine z_loc (L' := [(0, .ref a), (1, .ref e), (2, .int 0), (3, .int (nI s))]) ⟨rfl, rfl, rfl, rfl, trivial⟩ ?_
    exact join _ (fun _ => rfl) rfl rfl (fun i hi => absurd hi (by omega)) (fun b b1 b2 => same.sI b1)
  · refine z_aload_n g dJx4a65c_fastRemove_b59b0_22 rfl ?_
    refine z_iload_n g dJx4a65c_fastRemove_b59b0_23 rfl ?_
    refine z_iconst (v := 1) g dJx4a65c_fastRemove_b59b0_24 (by decide) ?_
    refine z_iadd g dJx4a65c_fastRemove_b59b0_25 ?_
    refine z_aload_n g dJx4a65c_fastRemove_b59b0_26 rfl ?_
    refine z_iload_n g dJx4a65c_fastRemove_b59b0_27 rfl ?_
    refine z_iload_n g dJx4a65c_fastRemove_b59b0_28 rfl ?_
    refine z_iload_n g dJx4a65c_fastRemove_b59b0_29 rfl ?_
    refine z_isub g dJx4a65c_fastRemove_b59b0_30 ?_
    rw [show nI s - 0 = nI s from (by rw [show (0 : Int32) = nI 0 from rfl, pk_sub (Nat.zero_le _)]; rfl)]
    have hcl : (nI s).toNatClampNeg = s := nI_clamp (by omega)
    have c1 : ((0 : Int32) + 1).toNatClampNeg = 1 := by decide
    refine z_acopy (k0 := 300) (k1 := 300) g acl_Jx4a65c_112 acw2 acw3 acw4 (by show kd M e % 1000 = 300; rw [ke]) (by decide) (by show kd M e % 1000 = 300; rw [ke]) (by decide) (by decide) (by decide) (nI_pos (by omega)) (by rw [hcl, c1]; show 1 + s ≤ ln M e; omega) (by rw [hcl, cl0]; show 0 + s ≤ ln M e; omega) (fun i hi y hy => ?_) (by rw [hR]; decide) (by rw [hR]; exact Nat.le_of_ble_eq_true rfl) dJx4a65c_fastRemove_b59b0_31 ?_
    · rw [hcl] at hi
      rw [c1, Nat.add_comm] at hy
      exact hel (i + 1) (by omega) y hy
    · rw [hcl, c1, cl0]
      refine z_loc (L' := [(0, .ref a), (1, .ref e), (2, .int 0), (3, .int (nI s))]) ⟨rfl, rfl, rfl, rfl, trivial⟩ ?_
      exact join _ (fun _ => rfl) (by rw [fR_sW, if_neg hea.symm]; rfl) rfl (fun i hi => by rw [fR_sW, if_pos rfl]; unfold va_cpy; rw [if_pos ⟨Nat.zero_le _, by omega⟩]; show fR M e (1 + (i - 0)) = _; rw [show 1 + (i - 0) = i + 1 by omega]) (fun b b1 b2 => (same.sI b1).tr (same.sW b2))
set_option maxHeartbeats 4000000 in
set_option maxRecDepth 100000 in
theorem c_alrem (E : Ev) (M : Mm) (a v : Nat) (ha : 400 ≤ kd M a % 1000) (hl0 : 0 < ln M a) (hl : ln M a < 100) (hv : fR M a 0 = some v) (hel : ∀ i, i < ln M a → ∀ y, fR M a i = some y → 1 ≤ kd M y % 1000 ∧ kd M y % 1000 ≤ 11) : CT E yJx4a65c_remove_915e3 cJx4a65c_remove_915e3 4 (some (.object "java/lang/Object")) 3 0 0 [.ref a, .int 0] M (ansR v (sN (sW M a (fun i => fR M a (i + 1))) a (ln M a - 1))) noX := by
  refine CT.of rfl (Nat.le_of_ble_eq_true rfl) (fun X g hrt hno hE hN hR hI => ?_)
  subst hE
  refine z_open (a := a) ha (fun e n f mc ro h3 => ?_)
  have k1 : kd (opn M a e n f mc) a = 20 := by rw [kd_opn, if_pos rfl]
  have k1' : kd (opn M a e n f mc) a % 1000 = 20 := by rw [k1]
  obtain ⟨q1, q2, q3, q4⟩ := opn_row (mc := mc) ro h3
  have hea : e ≠ a := ro.2.2.2.1
  have hka : kd M a ≠ 0 := fun z => by rw [z] at ha; simp at ha
  have kO : ∀ y, 1 ≤ kd M y % 1000 ∧ kd M y % 1000 ≤ 11 → kd (opn M a e n f mc) y = kd M y := fun y hy => (opn_else ro h3 (fun z => by subst z; omega) (fun z => by rw [z] at hy; exact absurd hy.1 (by decide))).1.symm
  have row : ∀ i, i < ln M a → fR (opn M a e n f mc) e i = fR M a i := fun i hi => by rw [q4]; exact ro.2.2.1 i hi
  have hce : (e = (xE X).2.2.2.2 ∧ kd (opn M a e n f mc) e = 390 ∧ ln M a = 0 ∧ ln (opn M a e n f mc) e = 0) ∨ (e ≠ (xE X).2.2.2.2 ∧ kd (opn M a e n f mc) e = 300 ∧ ln M a ≤ ln (opn M a e n f mc) e ∧ ln (opn M a e n f mc) e ≤ 150) := by
    rcases ro.2.2.2.2 with ⟨y1, y2, y3, y4, y5⟩ | ⟨y1, y2⟩
    · exact Or.inl ⟨y1, by rw [kd_opn, if_neg hea, if_pos rfl, if_pos (by rw [y1]; exact h3)], y2, by rw [q3]; exact y3⟩
    · exact Or.inr ⟨y1, by rw [kd_opn, if_neg hea, if_pos rfl, y2]; rfl, by rw [q3]; exact ro.1, by rw [q3]; exact ro.2.1⟩
  have k5 : 300 ≤ kd (opn M a e n f mc) e % 1000 ∧ kd (opn M a e n f mc) e % 1000 < 400 := by
    rw [kd_opn, if_neg ro.2.2.2.1, if_pos rfl]; split <;> decide
  refine z_iload_n g dJx4a65c_remove_915e3_0 rfl ?_
  refine z_aload_n g dJx4a65c_remove_915e3_1 rfl ?_
  refine z_getI g fl_Jx4a65c_48 k1' (by decide) rfl dJx4a65c_remove_915e3_2 ?_
  rw [fI_opn2]
  refine z_callS g _ _ cs_Jx4a65c_118 (c_chk2 _ _ 0 (ln M a) hl0 (by omega) (by omega)) rfl (by rw [hR]; decide) (by rw [hR]; decide) (by rw [hR]; decide) (Nat.le_of_ble_eq_true rfl) rfl dJx4a65c_remove_915e3_5 (fun _ _ h => False.elim h) (fun r_5 M_5 h_5 => ?_)
  obtain ⟨rfl, rfl⟩ := h_5
  refine z_pop g dJx4a65c_remove_915e3_8 rfl ?_
  refine z_aload_n g dJx4a65c_remove_915e3_9 rfl ?_
  refine z_getR g fl_Jx4a65c_9 k1' (by decide) rfl (fR_opn1 (mc := mc)) dJx4a65c_remove_915e3_10 ?_
  refine z_astore_n g dJx4a65c_remove_915e3_13 (by rw [hN]; decide) ?_
  refine z_aload_n g dJx4a65c_remove_915e3_14 rfl ?_
  refine z_iload_n g dJx4a65c_remove_915e3_15 rfl ?_
  refine z_aald g k5.1 k5.2 (vp_in_nI (n := 0) (by rw [q3]; exact Nat.lt_of_lt_of_le hl0 ro.1) (by rw [q3]; have := ro.2.1; omega)) (by rw [cl0, row 0 hl0]; exact hv) dJx4a65c_remove_915e3_16 ?_
  refine z_astore_n g dJx4a65c_remove_915e3_17 (by rw [hN]; decide) ?_
  refine z_aload_n g dJx4a65c_remove_915e3_18 rfl ?_
  refine z_aload_n g dJx4a65c_remove_915e3_19 rfl ?_
  refine z_iload_n g dJx4a65c_remove_915e3_20 rfl ?_
  have ke3 : kd (opn M a e n f mc) e = 300 := by
    rcases hce with ⟨-, -, z, -⟩ | ⟨-, z, -⟩
    · omega
    · exact z
  refine z_callV g _ _ cv_Jx4a65c_144 (c_frem _ _ a e (ln M a - 1) k1 (by rw [fI_opn2, show ln M a - 1 + 1 = ln M a by omega]) ke3 (by rw [q3]; have := ro.1; omega) (by rw [q3]; exact ro.2.1) (fun i hi y hy => by have h8 := hel i (by omega) y ((row i (by omega)).symm.trans hy); rw [kO y h8]; exact h8)) k1' (by decide) rfl (by rw [hR]; decide) (by rw [hR]; decide) (by rw [hR]; decide) (Nat.le_of_ble_eq_true rfl) rfl dJx4a65c_remove_915e3_21 (fun _ _ h => False.elim h) (fun r_21 M_21 h_21 => ?_)
  obtain ⟨rfl, j1, j2, j3, j4, j5, j6⟩ := h_21
  refine z_aload_n g dJx4a65c_remove_915e3_24 rfl ?_
  refine z_closeL (mc := mc) (e' := e) (g := fun i => fR M a (i + 1)) (len := ln M a - 1) ro h3 ha (by rw [j1]; exact k1) (by rw [j2]; exact fR_opn1) j3 (by rw [j1]; exact ke3) (by rw [j4, q3]; have := ro.1; omega) (by rw [j4, q3]; exact ro.2.1) (Or.inl ⟨rfl, ke3⟩) (fun b b1 b2 _ => j6 b b1 b2) (fun i hi => by rw [j5 i hi]; exact row (i + 1) (by omega)) ?_
  exact z_aret g hrt (Or.inl ⟨_, rfl⟩) (Or.inr ⟨_, rfl⟩) (by decide) (by decide) dJx4a65c_remove_915e3_25 ⟨rfl, rfl⟩
set_option maxHeartbeats 4000000 in
set_option maxRecDepth 100000 in
theorem c_rchk (E : Ev) (M : Mm) (a i s : Nat) (k1 : kd M a % 1000 = 20) (k3 : fI M a 2 = nI s) (his : i ≤ s) (hs : s < 1000) : CT E yJx4a65c_rangeCheckForAdd_d00df cJx4a65c_rangeCheckForAdd_d00df 2 none 1 0 0 [.ref a, .int (nI i)] M (ansV M) noX := by
  refine CT.of rfl (Nat.le_of_ble_eq_true rfl) (fun X g hrt hno hE hN hR hI => ?_)
  subst hE
  refine z_iload_n g dJx4a65c_rangeCheckForAdd_d00df_0 rfl ?_
  refine z_aload_n g dJx4a65c_rangeCheckForAdd_d00df_1 rfl ?_
  refine z_getI g fl_Jx4a65c_48 k1 (by decide) rfl dJx4a65c_rangeCheckForAdd_d00df_2 ?_
  rw [k3]
  refine z_icmp_gt (tgt := 12) g dJx4a65c_rangeCheckForAdd_d00df_5 (by decide) (fun c_5 => (by exact absurd c_5 (nI_nlt his (by omega)))) (fun c_5 => ?_)
  refine z_iload_n g dJx4a65c_rangeCheckForAdd_d00df_8 rfl ?_
  refine z_if_ge (tgt := 25) g dJx4a65c_rangeCheckForAdd_d00df_9 (by decide) (fun c_9 => ?_) (fun c_9 => (by exact absurd (nI_pos' (by omega)) c_9))
  exact z_vret g hrt (by decide) (by decide) dJx4a65c_rangeCheckForAdd_d00df_25 ⟨rfl, rfl⟩
def insR (f : Nat → Option Nat) (i v : Nat) : Nat → Option Nat := fun j => if j < i then f j else if j = i then some v else f (j - 1)
theorem ins_e {f g : Nat → Option Nat} {i s v j : Nat} (his : i ≤ s) (hj : j < s + 1) (hg : ∀ k, k < s → g k = f k) (o : Nat → Option Nat) (ho : ∀ k, k ≠ i → o k = va_cpy g g i (i + 1) (s - i) k) (hv : o i = some v) : o j = insR f i v j := by
  unfold insR
  by_cases c1 : j < i
  · rw [if_pos c1, ho j (by omega)]
    unfold va_cpy
    rw [if_neg (by omega)]
    exact hg j (by omega)
  · rw [if_neg c1]
    by_cases c2 : j = i
    · rw [if_pos c2, c2]; exact hv
    · rw [if_neg c2, ho j c2]
      unfold va_cpy
      rw [if_pos (by omega), show i + (j - (i + 1)) = j - 1 by omega]
      exact hg (j - 1) (by omega)
set_option maxHeartbeats 4000000 in
set_option maxRecDepth 100000 in
theorem c_addAt (E : Ev) (M : Mm) (a v i : Nat) (ha : 400 ≤ kd M a % 1000) (hl : ln M a < 100) (his : i ≤ ln M a) (hv : 1 ≤ kd M v % 1000 ∧ kd M v % 1000 ≤ 11) (hel : ∀ i, i < ln M a → ∀ y, fR M a i = some y → 1 ≤ kd M y % 1000 ∧ kd M y % 1000 ≤ 11) : CT E yJx4a65c_add_7a177 cJx4a65c_add_7a177 5 none 7 1 150 [.ref a, .int (nI i), .ref v] M (ansV (sN (sW M a (insR (fR M a) i v)) a (ln M a + 1))) noX := by
  refine CT.of rfl (Nat.le_of_ble_eq_true rfl) (fun X g hrt hno hE hN hR hI => ?_)
  subst hE
  refine z_open (a := a) ha (fun e n f mc ro h3 => ?_)
  have k1 : kd (opn M a e n f mc) a = 20 := by rw [kd_opn, if_pos rfl]
  have k1' : kd (opn M a e n f mc) a % 1000 = 20 := by rw [k1]
  obtain ⟨q1, q2, q3, q4⟩ := opn_row (mc := mc) ro h3
  have hea : e ≠ a := ro.2.2.2.1
  have hka : kd M a ≠ 0 := fun z => by rw [z] at ha; simp at ha
  have kO : ∀ y, 1 ≤ kd M y % 1000 ∧ kd M y % 1000 ≤ 11 → kd (opn M a e n f mc) y = kd M y := fun y hy => (opn_else ro h3 (fun z => by subst z; omega) (fun z => by rw [z] at hy; exact absurd hy.1 (by decide))).1.symm
  have row : ∀ i, i < ln M a → fR (opn M a e n f mc) e i = fR M a i := fun i hi => by rw [q4]; exact ro.2.2.1 i hi
  have hce : (e = (xE X).2.2.2.2 ∧ kd (opn M a e n f mc) e = 390 ∧ ln M a = 0 ∧ ln (opn M a e n f mc) e = 0) ∨ (e ≠ (xE X).2.2.2.2 ∧ kd (opn M a e n f mc) e = 300 ∧ ln M a ≤ ln (opn M a e n f mc) e ∧ ln (opn M a e n f mc) e ≤ 150) := by
    rcases ro.2.2.2.2 with ⟨y1, y2, y3, y4, y5⟩ | ⟨y1, y2⟩
    · exact Or.inl ⟨y1, by rw [kd_opn, if_neg hea, if_pos rfl, if_pos (by rw [y1]; exact h3)], y2, by rw [q3]; exact y3⟩
    · exact Or.inr ⟨y1, by rw [kd_opn, if_neg hea, if_pos rfl, y2]; rfl, by rw [q3]; exact ro.1, by rw [q3]; exact ro.2.1⟩
  have k5 : 300 ≤ kd (opn M a e n f mc) e % 1000 ∧ kd (opn M a e n f mc) e % 1000 < 400 := by
    rw [kd_opn, if_neg ro.2.2.2.1, if_pos rfl]; split <;> decide
  have join : ∀ (M1 : Mm) (e1 : Nat), fR M1 a 1 = some e1 → kd M1 a = 20 → kd M1 e1 = 300 → ln M a < ln M1 e1 → ln M1 e1 ≤ 150 → (∀ y, 1 ≤ kd M y % 1000 ∧ kd M y % 1000 ≤ 11 → kd M1 y = kd M y) → (∀ i, i < ln M a → fR M1 e1 i = fR M a i) → ((e1 = e ∧ kd (opn M a e n f mc) e = 300) ∨ kd (opn M a e n f mc) e1 = 0) → (∀ b, b ≠ a → b ≠ e1 → kd (opn M a e n f mc) b ≠ 0 → same (opn M a e n f mc) M1 b) → Z X M1 1 150 38 [(0, .ref a), (1, .int (nI i)), (2, .ref v), (3, .int (nI (ln M a))), (4, .ref e1)] [] := by
    intro M1 e1 j1 j2 j3 j4 j5 j6 j7 j8 j9
    have hea1 : e1 ≠ a := fun z => by rw [z, j2] at j3; cases j3
    have hki : (nI i).toNatClampNeg = i := nI_clamp (by omega)
    have hki1 : (nI (i + 1)).toNatClampNeg = i + 1 := nI_clamp (by omega)
    have hks : (nI (ln M a - i)).toNatClampNeg = ln M a - i := nI_clamp (by omega)
    refine z_aload g dJx4a65c_add_7a177_38 rfl ?_
    refine z_iload_n g dJx4a65c_add_7a177_40 rfl ?_
    refine z_aload g dJx4a65c_add_7a177_41 rfl ?_
    refine z_iload_n g dJx4a65c_add_7a177_43 rfl ?_
    refine z_iconst (v := 1) g dJx4a65c_add_7a177_44 (by decide) ?_
    refine z_iadd g dJx4a65c_add_7a177_45 ?_
    rw [nI_1]
    refine z_iload_n g dJx4a65c_add_7a177_46 rfl ?_
    refine z_iload_n g dJx4a65c_add_7a177_47 rfl ?_
    refine z_isub g dJx4a65c_add_7a177_48 ?_
    rw [pk_sub his]
    refine z_acopy (k0 := 300) (k1 := 300) g acl_Jx4a65c_112 acw2 acw3 acw4 (by rw [j3]) (by decide) (by rw [j3]) (by decide) (nI_pos (by omega)) (nI_pos (by omega)) (nI_pos (by omega)) (by rw [hki, hks]; omega) (by rw [hki1, hks]; omega) (fun k hk y hy => ?_) (by rw [hR]; decide) (by rw [hR]; exact Nat.le_of_ble_eq_true rfl) dJx4a65c_add_7a177_49 ?_
    · rw [hks] at hk
      rw [hki, j7 (i + k) (by omega)] at hy
      have h8 := hel (i + k) (by omega) y hy
      rw [j6 y h8]; exact h8
    rw [hki, hki1, hks]
    refine z_aload g dJx4a65c_add_7a177_52 rfl ?_
    refine z_iload_n g dJx4a65c_add_7a177_54 rfl ?_
    refine z_aload_n g dJx4a65c_add_7a177_55 rfl ?_
    refine z_aast (k := 300) g (by rw [kd_sW, j3]) (by decide) (vp_in_nI (by rw [ln_sW]; omega) (by rw [ln_sW]; omega)) (by rw [kd_sW, j6 v hv]; exact hv.1) (by rw [kd_sW, j6 v hv]; exact hv.2) dJx4a65c_add_7a177_56 ?_
    rw [hki]
    refine z_aload_n g dJx4a65c_add_7a177_57 rfl ?_
    refine z_iload_n g dJx4a65c_add_7a177_58 rfl ?_
    refine z_iconst (v := 1) g dJx4a65c_add_7a177_59 (by decide) ?_
    refine z_iadd g dJx4a65c_add_7a177_60 ?_
    rw [nI_1]
    refine z_putI g fp_Jx4a65c_48 (by rw [kd_sR, kd_sW, j2]) (by decide) rfl (fun h => nomatch h) dJx4a65c_add_7a177_61 ?_
    refine z_closeL (mc := mc) (e' := e1) (g := insR (fR M a) i v) (len := ln M a + 1) ro h3 ha j2 (by rw [fR_sI, fR_sR, if_neg (fun z => hea1 z.1.symm), fR_sW, if_neg hea1.symm]; exact j1) (by rw [fI_sI, if_pos ⟨rfl, rfl⟩]) j3 j4 j5 j8 (fun b b1 b2 b3 => (j9 b b1 b2 b3).tr ((same.sW b2).tr ((same.sR b2).tr (same.sI b1)))) (fun k hk => ?_) ?_
    · refine ins_e (g := fR M1 e1) his hk j7 (fun q => fR (sI (sR (sW M1 e1 (va_cpy (fR M1 e1) (fR M1 e1) i (i + 1) (ln M a - i))) e1 i (some v)) a 2 (nI (ln M a + 1))) e1 q) (fun q hq => ?_) ?_
      · show fR _ e1 q = _
        rw [fR_sI, fR_sR, if_neg (fun z => hq z.2), fR_sW, if_pos rfl]
      · show fR _ e1 i = _
        rw [fR_sI, fR_sR, if_pos ⟨rfl, rfl⟩]
    · exact z_vret g hrt (by decide) (by decide) dJx4a65c_add_7a177_64 ⟨rfl, rfl⟩
  refine z_aload_n g dJx4a65c_add_7a177_0 rfl ?_
  refine z_iload_n g dJx4a65c_add_7a177_1 rfl ?_
  refine z_callV g _ _ cv_Jx4a65c_135 (c_rchk _ _ a i (ln M a) k1' fI_opn2 his (by omega)) k1' (by decide) rfl (by rw [hR]; decide) (by rw [hR]; decide) (by rw [hR]; decide) (Nat.le_of_ble_eq_true rfl) rfl dJx4a65c_add_7a177_2 (fun _ _ h => False.elim h) (fun r_2 M_2 h_2 => ?_)
  obtain ⟨rfl, rfl⟩ := h_2
  refine z_aload_n g dJx4a65c_add_7a177_5 rfl ?_
  refine z_dup g dJx4a65c_add_7a177_6 rfl ?_
  refine z_getI g fl_Jx4a65c_63 k1' (by decide) rfl dJx4a65c_add_7a177_7 ?_
  refine z_iconst (v := 1) g dJx4a65c_add_7a177_10 (by decide) ?_
  refine z_iadd g dJx4a65c_add_7a177_11 ?_
  refine z_putI g fp_Jx4a65c_63 k1' (by decide) rfl (fun h => nomatch h) dJx4a65c_add_7a177_12 ?_
  refine z_aload_n g dJx4a65c_add_7a177_15 rfl ?_
  refine z_getI g fl_Jx4a65c_48 k1' (by decide) rfl dJx4a65c_add_7a177_16 ?_
  rw [show fI (sI (opn M a e n f mc) a 0 (fI (opn M a e n f mc) a 0 + 1)) a 2 = nI (ln M a) by rw [fI_sI, if_neg (fun z => by cases z.2), fI_opn2]]
  refine z_dup g dJx4a65c_add_7a177_19 rfl ?_
  refine z_istore_n g dJx4a65c_add_7a177_20 (by rw [hN]; decide) ?_
  refine z_aload_n g dJx4a65c_add_7a177_21 rfl ?_
  refine z_getR g fl_Jx4a65c_9 k1' (by decide) rfl (fR_opn1 (mc := mc)) dJx4a65c_add_7a177_22 ?_
  refine z_dup g dJx4a65c_add_7a177_25 rfl ?_
  refine z_astore g dJx4a65c_add_7a177_26 (by rw [hN]; decide) ?_
  refine z_alenR g k5.1 k5.2 dJx4a65c_add_7a177_28 ?_
  refine z_icmp_ne (tgt := 38) g dJx4a65c_add_7a177_29 (by decide) (fun c_29 => ?_) (fun c_29 => ?_)
  · have hle9 : ln M a ≤ ln (opn M a e n f mc) e := by rw [q3]; exact ro.1
    have hlt : ln M a < ln (opn M a e n f mc) e := by
      rcases Nat.lt_or_ge (ln M a) (ln (opn M a e n f mc) e) with q | q
      · exact q
      · exact absurd (congrArg nI (Nat.le_antisymm hle9 q)) c_29
    have ke3 : kd (opn M a e n f mc) e = 300 := by rcases hce with ⟨-, -, y, z⟩ | ⟨-, y, -⟩; omega; exact y
    refine z_wid (k := 1) (n := 150) (by decide) (by decide) (z_loc (L' := [(0, .ref a), (1, .int (nI i)), (2, .ref v), (3, .int (nI (ln M a))), (4, .ref e)]) ⟨rfl, rfl, rfl, rfl, rfl, trivial⟩ ?_)
    exact join _ e (fR_opn1 (mc := mc)) k1 ke3 hlt (by show ln (opn M a e n f mc) e ≤ 150; rw [q3]; exact ro.2.1) kO row (Or.inl ⟨rfl, ke3⟩) (fun c c1 c2 c3 => same.sI c1)
  · refine z_aload_n g dJx4a65c_add_7a177_32 rfl ?_
    have hsl : ln (opn M a e n f mc) e = ln M a := ((nI_eq (by omega) (by rw [q3]; have := ro.2.1; omega)).mp (show nI (ln M a) = nI (ln (opn M a e n f mc) e) from c_29)).symm
    refine z_callV g _ _ cv_Jx4a65c_129 (c_grow0 _ _ a e (ln M a) k1 (fR_opn1 (mc := mc)) hsl hl (hce.imp (fun z => ⟨z.1, z.2.1, z.2.2.1⟩) (fun z => ⟨z.1, z.2.1⟩)) (fun i hi y hy => by show 1 ≤ kd (opn M a e n f mc) y % 1000 ∧ kd (opn M a e n f mc) y % 1000 ≤ 11; have h8 := hel i hi y ((row i hi).symm.trans hy); rw [kO y h8]; exact h8) (by rw [fI_sI, if_neg (fun z => by cases z.2), fI_opn2])) k1' (by decide) rfl (by rw [hR]; decide) (by rw [hR]; decide) (by rw [hR]; decide) (Nat.le_of_ble_eq_true rfl) rfl dJx4a65c_add_7a177_33 (fun _ _ h => False.elim h) (fun r_33 M_33 h_33 => ?_)
    obtain ⟨b, n2, h, rfl, hb, h1, h2, h4, rfl⟩ := h_33
    have hb' : kd (opn M a e n f mc) b = 0 := hb
    have hne : a ≠ b := fun z => by have h8 := hb'; rw [← z, k1] at h8; cases h8
    refine z_astore g dJx4a65c_add_7a177_36 (by rw [hN]; decide) ?_
    refine z_loc (L' := [(0, .ref a), (1, .int (nI i)), (2, .ref v), (3, .int (nI (ln M a))), (4, .ref b)]) ⟨rfl, rfl, rfl, rfl, rfl, trivial⟩ ?_
    exact join _ b (by rw [fR_sR, if_pos ⟨rfl, rfl⟩]) (by rw [kd_sR, kd_sW, kd_al, if_neg hne]; exact k1) (by rw [kd_sR, kd_sW, kd_al, if_pos rfl]) (by rw [ln_sR, ln_sW, ln_al, if_pos rfl]; exact h1) (by rw [ln_sR, ln_sW, ln_al, if_pos rfl]; exact h2) (fun y hy => by have h8 := kO y hy; rw [kd_sR, kd_sW, kd_al, if_neg (fun z => by rw [z, hb'] at h8; rw [z, ← h8] at hy; exact absurd hy.1 (by decide))]; exact h8) (fun k hk => by rw [fR_sR, if_neg (fun z => hne z.1.symm), fR_sW, if_pos rfl, h4 k hk]; exact row k hk) (Or.inr hb') (fun c c1 c2 c3 => (same.sI c1).tr ((same.al c2).tr ((same.sW c2).tr (same.sR c1))))
