theorem inB_100 (w : Int32) : inB w 0 100 = (!decide (w < 0) && !decide (100 < w)) := rfl
theorem inB_10 (w : Int32) : inB w 0 10 = (!decide (w < 0) && !decide (10 < w)) := rfl
theorem letN_e (d : Int32) : letNB d = inB d 0 26 := by
  rcases pk_ix d (n := 27) (by decide) with h | h | ⟨j, hj, rfl⟩
  · unfold letNB letB inB
    rw [decide_eq_true h, decide_eq_false (fun z : d = 0 => by rw [z] at h; exact absurd h (by decide)), decide_eq_true (show d < 1 from Int32.lt_trans h (by decide))]; rfl
  · unfold letNB letB inB
    have h26 : (26 : Int32) < d := Int32.lt_of_lt_of_le (by decide : (26 : Int32) < nI 27) h
    rw [decide_eq_true h26, decide_eq_false (fun z : d = 0 => by rw [z] at h26; exact absurd h26 (by decide)), Bool.not_true, Bool.and_false, Bool.and_false]; rfl
  · have key : ∀ j, j < 27 → letNB (nI j) = inB (nI j) 0 26 := by decide +kernel
    exact key j hj
theorem fst_e {p : Int32} (h : inB p 0 26 = true) : (0 < p) ↔ ¬ p = 0 := by
  obtain ⟨j, -, hj, rfl⟩ := inb (a := 0) (b := 26) (v := p) (by decide) h (by decide)
  have key : ∀ j, j < 27 → ((0 < nI j) ↔ ¬ nI j = 0) := by decide +kernel
  exact key j (by omega)
theorem let_ex {d : Int32} (h : inB d 1 26 = true) : ∃ n, 1 ≤ n ∧ n ≤ 26 ∧ d = nI n := inb (a := 1) (b := 26) (v := d) (by decide) h (by decide)
theorem tg_ex {d : Int32} (h : inB d 0 3 = true) : ∃ n, n < 4 ∧ d = nI n := by
  obtain ⟨n, -, h1, h2⟩ := inb (a := 0) (b := 3) (v := d) (by decide) h (by decide)
  exact ⟨n, by omega, h2⟩
set_option maxHeartbeats 4000000 in
set_option maxRecDepth 100000 in
theorem k_census (E : Ev) {B : Nat → Nat → Nat} {x : Nat} {S : Ms} (M : Mm) (hX : RX B x S M) (hV : INV S) (f t v : Int32) : CT E yX10_census cX10_census 6 (some .int) 10 16 500 [.ref x, .int f, .int t, .int v] M (fun r M' => cCensus S f t v = 0 ∧ r = (some (.int (vCensus S f t v))) ∧ agr TC M M' ∧ ∃ B', RX B' x (sCensus S f t v) M') (fun E9 M' => M = M' ∧ ((cCensus S f t v = 1 ∧ E9 = IOE) ∨ (cCensus S f t v = 2 ∧ E9 = IAE))) := by
  refine CT.of rfl (Nat.le_of_ble_eq_true rfl) (fun X g hrt hno hE hN hR hI => ?_)
  subst hE
  have hX0 := hX
  obtain ⟨qx, qs, qf, qd, qg, qh, qp, qw, qm, qe, ql, qq, qt, qr, qc, qo, qi⟩ := hX
  have k11 : kd M x % 1000 = 11 := by rw [qx.1]
  refine z_aload_n g dX10_census_0 rfl ?_
  refine z_iload_n g dX10_census_1 rfl ?_
  refine z_callV g _ _ cv_X10_96 (k_feaAt _ M hX0 hV f) (by assumption) (by decide) rfl (by rw [hR]; decide) (by rw [hR]; decide) (by rw [hR]; decide) (Nat.le_of_ble_eq_true rfl) rfl dX10_census_2 (fun E9 M9 h9 => by obtain ⟨h9, rfl, rfl⟩ := h9; have hF := (isF_ix hV f).trans h9; exact zx_out g hrt hno (by decide) (by decide) ⟨rfl, Or.inl ⟨by simp [cCensus, inB_100, hF], rfl⟩⟩) (fun r_2 M_2 h_2 => ?_)
  obtain ⟨j, hj, rfl, rfl, rfl⟩ := h_2
  have hF : isF S (nI j) = true := isF_j hV hj
  have hcl : (nI j).toNatClampNeg = j := nI_clamp (by have := hV.c2; omega)
  have k4 : kd M (B 4 j) % 1000 = 4 := qf.k4 hj
  obtain ⟨-, -, ⟨fk0, fk1⟩, ⟨g2, g3, g4, g5, g6⟩, ⟨k5a, k5b, -⟩, e5a, e5b, l170⟩ := qf.2 j hj
  have k5a1 : kd M (B 5 (2 * j)) % 1000 = 5 := by rw [k5a]; omega
  have k5b1 : kd M (B 5 (2 * j + 1)) % 1000 = 5 := by rw [k5b]; omega
  have k170 : kd M (B 170 j) % 1000 = 170 := qf.k170 hj
  refine z_astore g dX10_census_5 (by rw [hN]; decide) ?_
  refine z_iload_n g dX10_census_7 rfl ?_
  refine z_callS g _ _ cs_X10_144 (c_needTg _ M t) rfl (by rw [hR]; decide) (by rw [hR]; decide) (by rw [hR]; decide) (Nat.le_of_ble_eq_true rfl) rfl dX10_census_8 (fun E9 M9 h9 => by obtain ⟨h9, rfl, rfl⟩ := h9; rw [tg_e] at h9; exact zx_out g hrt hno (by decide) (by decide) ⟨rfl, Or.inl ⟨by simp [cCensus, inB_100, hF, hcl, h9], rfl⟩⟩) (fun r_8 M_8 h_8 => ?_)
  obtain ⟨hT_8, rfl, rfl⟩ := h_8
  rw [tg_e] at hT_8
  refine z_iload_n g dX10_census_11 rfl ?_
  refine z_if_lt (tgt := 25) g dX10_census_12 (by decide) (fun c_12 => ?_) (fun c_12 => ?_)
  · refine z_iconst (v := 0) g dX10_census_25 (by decide) ?_
    exact z_callS g _ _ cs_X10_63 (c_needArg _ M false) rfl (by rw [hR]; decide) (by rw [hR]; decide) (by rw [hR]; decide) (Nat.le_of_ble_eq_true rfl) rfl dX10_census_26 (fun E9 M9 h9 => by obtain ⟨-, rfl, rfl⟩ := h9; exact zx_out g hrt hno (by decide) (by decide) ⟨rfl, Or.inr (⟨by simp [cCensus, inB_100, hF, hcl, hT_8, eq_true c_12], rfl⟩)⟩) (fun _ _ h => by cases h.1)
  · refine z_iload_n g dX10_census_15 rfl ?_
    refine z_bipush (v := 100) g dX10_census_16 (by decide) ?_
    refine z_icmp_gt (tgt := 25) g dX10_census_18 (by decide) (fun c_18 => ?_) (fun c_18 => ?_)
    · refine z_iconst (v := 0) g dX10_census_25 (by decide) ?_
      exact z_callS g _ _ cs_X10_63 (c_needArg _ M false) rfl (by rw [hR]; decide) (by rw [hR]; decide) (by rw [hR]; decide) (Nat.le_of_ble_eq_true rfl) rfl dX10_census_26 (fun E9 M9 h9 => by obtain ⟨-, rfl, rfl⟩ := h9; exact zx_out g hrt hno (by decide) (by decide) ⟨rfl, Or.inr (⟨by simp [cCensus, inB_100, hF, hcl, hT_8, eq_false c_12, eq_true c_18], rfl⟩)⟩) (fun _ _ h => by cases h.1)
    · refine z_iconst (v := 1) g dX10_census_21 (by decide) ?_
      refine z_goto (tgt := 26) g dX10_census_22 (by decide) ?_
      refine z_callS g _ _ cs_X10_63 (c_needArg _ M true) rfl (by rw [hR]; decide) (by rw [hR]; decide) (by rw [hR]; decide) (Nat.le_of_ble_eq_true rfl) rfl dX10_census_26 (fun _ _ h => by cases h.1) (fun r_26 M_26 h_26 => ?_)
      obtain ⟨-, rfl, rfl⟩ := h_26
      obtain ⟨u, hu, rfl⟩ := tg_ex hT_8
      have hcu : (nI u).toNatClampNeg = u := nI_clamp (by omega)
      refine z_aload g dX10_census_29 rfl ?_
      refine z_iload_n g dX10_census_31 rfl ?_
      refine z_callV g _ _ cv_X10_265 (c_hunO _ M (B 4 j) (B 170 j) u k4 g6 k170 l170 hu) (by assumption) (by decide) rfl (by rw [hR]; decide) (by rw [hR]; decide) (by rw [hR]; decide) (Nat.le_of_ble_eq_true rfl) rfl dX10_census_32 (fun _ _ h => False.elim h) (fun r_32 M_32 h_32 => ?_)
      obtain ⟨rfl, rfl⟩ := h_32
      rw [qh j hj u hu]
      refine z_istore g dX10_census_35 (by rw [hN]; decide) ?_
      refine z_aload g dX10_census_37 rfl ?_
      refine z_iload_n g dX10_census_39 rfl ?_
      refine z_iload_n g dX10_census_40 rfl ?_
      refine z_callV g _ _ cv_X10_268 (c_setH _ M (B 4 j) (B 170 j) u k4 g6 k170 l170 hu v) (by assumption) (by decide) rfl (by rw [hR]; decide) (by rw [hR]; decide) (by rw [hR]; decide) (Nat.le_of_ble_eq_true rfl) rfl dX10_census_41 (fun _ _ h => False.elim h) (fun r_41 M_41 h_41 => ?_)
      obtain ⟨rfl, rfl⟩ := h_41
      refine z_iload g dX10_census_44 rfl ?_
      exact z_iret g hrt rfl (by decide) (by decide) dX10_census_46 ⟨by simp [cCensus, inB_100, hF, hcl, hT_8, eq_false c_12, eq_false c_18], by unfold vCensus; rw [hcl, hcu], (RX_census hX0 hV (v := v) hj hu).2, B, by unfold sCensus; rw [hcl, hcu]; exact (RX_census hX0 hV (v := v) hj hu).1⟩
set_option maxHeartbeats 4000000 in
set_option maxRecDepth 100000 in
theorem k_dispute (E : Ev) {B : Nat → Nat → Nat} {x : Nat} {S : Ms} (M : Mm) (hX : RX B x S M) (hV : INV S) (f a b : Int32) : CT E yX10_dispute cX10_dispute 5 none 10 16 500 [.ref x, .int f, .int a, .int b] M (fun r M' => cDispute S f a b = 0 ∧ r = none ∧ agr TC M M' ∧ ∃ B', RX B' x (sDispute S f a b) M') (fun E9 M' => M = M' ∧ ((cDispute S f a b = 1 ∧ E9 = IOE))) := by
  refine CT.of rfl (Nat.le_of_ble_eq_true rfl) (fun X g hrt hno hE hN hR hI => ?_)
  subst hE
  have hX0 := hX
  obtain ⟨qx, qs, qf, qd, qg, qh, qp, qw, qm, qe, ql, qq, qt, qr, qc, qo, qi⟩ := hX
  have k11 : kd M x % 1000 = 11 := by rw [qx.1]
  refine z_aload_n g dX10_dispute_0 rfl ?_
  refine z_iload_n g dX10_dispute_1 rfl ?_
  refine z_callV g _ _ cv_X10_96 (k_feaAt _ M hX0 hV f) (by assumption) (by decide) rfl (by rw [hR]; decide) (by rw [hR]; decide) (by rw [hR]; decide) (Nat.le_of_ble_eq_true rfl) rfl dX10_dispute_2 (fun E9 M9 h9 => by obtain ⟨h9, rfl, rfl⟩ := h9; have hF := (isF_ix hV f).trans h9; exact zx_out g hrt hno (by decide) (by decide) ⟨rfl, ⟨by simp [cDispute, hF], rfl⟩⟩) (fun r_2 M_2 h_2 => ?_)
  obtain ⟨j, hj, rfl, rfl, rfl⟩ := h_2
  have hF : isF S (nI j) = true := isF_j hV hj
  have hcl : (nI j).toNatClampNeg = j := nI_clamp (by have := hV.c2; omega)
  have k4 : kd M (B 4 j) % 1000 = 4 := qf.k4 hj
  obtain ⟨-, -, ⟨fk0, fk1⟩, ⟨g2, g3, g4, g5, g6⟩, ⟨k5a, k5b, -⟩, e5a, e5b, l170⟩ := qf.2 j hj
  have k5a1 : kd M (B 5 (2 * j)) % 1000 = 5 := by rw [k5a]; omega
  have k5b1 : kd M (B 5 (2 * j + 1)) % 1000 = 5 := by rw [k5b]; omega
  have k170 : kd M (B 170 j) % 1000 = 170 := qf.k170 hj
  refine z_astore g dX10_dispute_5 (by rw [hN]; decide) ?_
  refine z_iload_n g dX10_dispute_7 rfl ?_
  refine z_callS g _ _ cs_X10_144 (c_needTg _ M a) rfl (by rw [hR]; decide) (by rw [hR]; decide) (by rw [hR]; decide) (Nat.le_of_ble_eq_true rfl) rfl dX10_dispute_8 (fun E9 M9 h9 => by obtain ⟨h9, rfl, rfl⟩ := h9; rw [tg_e] at h9; exact zx_out g hrt hno (by decide) (by decide) ⟨rfl, ⟨by simp [cDispute, hF, hcl, h9], rfl⟩⟩) (fun r_8 M_8 h_8 => ?_)
  obtain ⟨hT_8, rfl, rfl⟩ := h_8
  rw [tg_e] at hT_8
  refine z_iload_n g dX10_dispute_11 rfl ?_
  refine z_callS g _ _ cs_X10_144 (c_needTg _ M b) rfl (by rw [hR]; decide) (by rw [hR]; decide) (by rw [hR]; decide) (Nat.le_of_ble_eq_true rfl) rfl dX10_dispute_12 (fun E9 M9 h9 => by obtain ⟨h9, rfl, rfl⟩ := h9; rw [tg_e] at h9; exact zx_out g hrt hno (by decide) (by decide) ⟨rfl, ⟨by simp [cDispute, hF, hcl, hT_8, h9], rfl⟩⟩) (fun r_12 M_12 h_12 => ?_)
  obtain ⟨hT_12, rfl, rfl⟩ := h_12
  rw [tg_e] at hT_12
  refine z_aload g dX10_dispute_15 rfl ?_
  refine z_iload_n g dX10_dispute_17 rfl ?_
  refine z_putI g fp_X10_271 k4 (by decide) rfl (fun h => nomatch h) dX10_dispute_18 ?_
  refine z_aload g dX10_dispute_21 rfl ?_
  refine z_iload_n g dX10_dispute_23 rfl ?_
  refine z_putI g fp_X10_274 k4 (by decide) rfl (fun h => nomatch h) dX10_dispute_24 ?_
  exact z_vret g hrt (by decide) (by decide) dX10_dispute_27 ⟨by simp [cDispute, hF, hcl, hT_8, hT_12], rfl, (RX_dispute hX0 hV (a := a) (b := b) hj).2, B, by unfold sDispute; rw [hcl]; exact (RX_dispute hX0 hV (a := a) (b := b) hj).1⟩
set_option maxHeartbeats 4000000 in
set_option maxRecDepth 100000 in
theorem k_table (E : Ev) {B : Nat → Nat → Nat} {x : Nat} {S : Ms} (M : Mm) (hX : RX B x S M) (hV : INV S) (f l o : Int32) : CT E yX10_table cX10_table 6 (some .int) 10 16 500 [.ref x, .int f, .int l, .int o] M (fun r M' => cTable S f l o = 0 ∧ r = (some (.int (vTable S f l o))) ∧ agr TC M M' ∧ ∃ B', RX B' x (sTable S f l o) M') (fun E9 M' => M = M' ∧ ((cTable S f l o = 1 ∧ E9 = IOE) ∨ (cTable S f l o = 2 ∧ E9 = IAE))) := by
  refine CT.of rfl (Nat.le_of_ble_eq_true rfl) (fun X g hrt hno hE hN hR hI => ?_)
  subst hE
  have hX0 := hX
  obtain ⟨qx, qs, qf, qd, qg, qh, qp, qw, qm, qe, ql, qq, qt, qr, qc, qo, qi⟩ := hX
  have k11 : kd M x % 1000 = 11 := by rw [qx.1]
  have r3 : fR M x 3 = some (B 403 0) := (qx.2.1 3 (by decide)).1
  have kl3 : kd M (B 403 0) = 403 := (qx.2.1 3 (by decide)).2
  have l3 : LK M (B 403 0) 10 := qt.LK kl3
  have m3 := l3.1
  have n3 : ln M (B 403 0) = 4 := qt.1
  have b3 := l3.2.1
  rw [n3] at b3
  refine z_aload_n g dX10_table_0 rfl ?_
  refine z_iload_n g dX10_table_1 rfl ?_
  refine z_callV g _ _ cv_X10_281 (k_tabAt _ M hX0 hV f) (by assumption) (by decide) rfl (by rw [hR]; decide) (by rw [hR]; decide) (by rw [hR]; decide) (Nat.le_of_ble_eq_true rfl) rfl dX10_table_2 (fun E9 M9 h9 => by obtain ⟨h9, rfl, rfl⟩ := h9; rw [show nI 4 = (4 : Int32) from rfl, tg_e] at h9; exact zx_out g hrt hno (by decide) (by decide) ⟨rfl, Or.inl ⟨by simp [cTable, h9], rfl⟩⟩) (fun r_2 M_2 h_2 => ?_)
  obtain ⟨j, hj, rfl, rfl, rfl⟩ := h_2
  have hF : inB (nI j) 0 3 = true := in4_j hj
  have hcl : (nI j).toNatClampNeg = j := nI_clamp (by omega)
  obtain ⟨-, k10a, t0, k171a, t27, tv⟩ := qt.2 j hj
  have k10 : kd M (B 10 j) % 1000 = 10 := by rw [k10a]; omega
  have k171 : kd M (B 171 j) % 1000 = 171 := by rw [k171a]; omega
  refine z_astore g dX10_table_5 (by rw [hN]; decide) ?_
  refine z_iload_n g dX10_table_7 rfl ?_
  refine z_callS g _ _ cs_X10_166 (c_isLet _ M l) rfl (by rw [hR]; decide) (by rw [hR]; decide) (by rw [hR]; decide) (Nat.le_of_ble_eq_true rfl) rfl dX10_table_8 (fun _ _ h => False.elim h) (fun r_8 M_8 h_8 => ?_)
  obtain ⟨rfl, rfl⟩ := h_8
  rw [show letB l = inB l 1 26 from rfl]
  refine z_if_eq (tgt := 25) g dX10_table_11 (by decide) (fun c_11 => ?_) (fun c_11 => ?_)
  · first | rw [b2i_n0] at c_11 | rw [b2i_0] at c_11 | skip
    refine z_iconst (v := 0) g dX10_table_25 (by decide) ?_
    exact z_callS g _ _ cs_X10_63 (c_needArg _ M false) rfl (by rw [hR]; decide) (by rw [hR]; decide) (by rw [hR]; decide) (Nat.le_of_ble_eq_true rfl) rfl dX10_table_26 (fun E9 M9 h9 => by obtain ⟨-, rfl, rfl⟩ := h9; exact zx_out g hrt hno (by decide) (by decide) ⟨rfl, Or.inr (⟨by simp [cTable, hF, hcl, c_11], rfl⟩)⟩) (fun _ _ h => by cases h.1)
  · first | rw [b2i_n0] at c_11 | rw [b2i_0] at c_11 | skip
    refine z_iload_n g dX10_table_14 rfl ?_
    refine z_callS g _ _ cs_X10_166 (c_isLet _ M o) rfl (by rw [hR]; decide) (by rw [hR]; decide) (by rw [hR]; decide) (Nat.le_of_ble_eq_true rfl) rfl dX10_table_15 (fun _ _ h => False.elim h) (fun r_15 M_15 h_15 => ?_)
    obtain ⟨rfl, rfl⟩ := h_15
    rw [show letB o = inB o 1 26 from rfl]
    refine z_if_eq (tgt := 25) g dX10_table_18 (by decide) (fun c_18 => ?_) (fun c_18 => ?_)
    · first | rw [b2i_n0] at c_18 | rw [b2i_0] at c_18 | skip
      refine z_iconst (v := 0) g dX10_table_25 (by decide) ?_
      exact z_callS g _ _ cs_X10_63 (c_needArg _ M false) rfl (by rw [hR]; decide) (by rw [hR]; decide) (by rw [hR]; decide) (Nat.le_of_ble_eq_true rfl) rfl dX10_table_26 (fun E9 M9 h9 => by obtain ⟨-, rfl, rfl⟩ := h9; exact zx_out g hrt hno (by decide) (by decide) ⟨rfl, Or.inr (⟨by simp [cTable, hF, hcl, c_11, c_18], rfl⟩)⟩) (fun _ _ h => by cases h.1)
    · first | rw [b2i_n0] at c_18 | rw [b2i_0] at c_18 | skip
      refine z_iconst (v := 1) g dX10_table_21 (by decide) ?_
      refine z_goto (tgt := 26) g dX10_table_22 (by decide) ?_
      refine z_callS g _ _ cs_X10_63 (c_needArg _ M true) rfl (by rw [hR]; decide) (by rw [hR]; decide) (by rw [hR]; decide) (Nat.le_of_ble_eq_true rfl) rfl dX10_table_26 (fun _ _ h => by cases h.1) (fun r_26 M_26 h_26 => ?_)
      obtain ⟨-, rfl, rfl⟩ := h_26
      obtain ⟨u, hu1, hu2, rfl⟩ := let_ex c_11
      have hcu : (nI u).toNatClampNeg = u := nI_clamp (by omega)
      refine z_aload g dX10_table_29 rfl ?_
      refine z_iload_n g dX10_table_31 rfl ?_
      refine z_callV g _ _ cv_X10_285 (c_letF _ M (B 10 j) (B 171 j) u k10 t0 k171 t27 (by omega)) (by assumption) (by decide) rfl (by rw [hR]; decide) (by rw [hR]; decide) (by rw [hR]; decide) (Nat.le_of_ble_eq_true rfl) rfl dX10_table_32 (fun _ _ h => False.elim h) (fun r_32 M_32 h_32 => ?_)
      obtain ⟨rfl, rfl⟩ := h_32
      rw [tv u (by omega)]
      refine z_istore g dX10_table_35 (by rw [hN]; decide) ?_
      refine z_aload g dX10_table_37 rfl ?_
      refine z_iload_n g dX10_table_39 rfl ?_
      refine z_iload_n g dX10_table_40 rfl ?_
      refine z_callV g _ _ cv_X10_288 (c_setL _ M (B 10 j) (B 171 j) u k10 t0 k171 t27 (by omega) o) (by assumption) (by decide) rfl (by rw [hR]; decide) (by rw [hR]; decide) (by rw [hR]; decide) (Nat.le_of_ble_eq_true rfl) rfl dX10_table_41 (fun _ _ h => False.elim h) (fun r_41 M_41 h_41 => ?_)
      obtain ⟨rfl, rfl⟩ := h_41
      refine z_iload g dX10_table_44 rfl ?_
      exact z_iret g hrt rfl (by decide) (by decide) dX10_table_46 ⟨by simp [cTable, hF, hcl, c_11, c_18], by unfold vTable; rw [hcl, hcu], (RX_table hX0 hV (l := u) (v := o) hj (by omega)).2, B, by unfold sTable; rw [hcl, hcu]; exact (RX_table hX0 hV (l := u) (v := o) hj (by omega)).1⟩
set_option maxHeartbeats 4000000 in
set_option maxRecDepth 100000 in
theorem k_pull (E : Ev) {B : Nat → Nat → Nat} {x : Nat} {S : Ms} (M : Mm) (hX : RX B x S M) (hV : INV S) (s : Int32) : CT E yX10_pull cX10_pull 3 (some .int) 10 16 500 [.ref x, .int s] M (fun r M' => cPull S s = 0 ∧ r = (some (.int (vPull S s))) ∧ agr TC M M' ∧ ∃ B', RX B' x (sPull S s) M') (fun E9 M' => M = M' ∧ ((cPull S s = 1 ∧ E9 = IOE))) := by
  refine CT.of rfl (Nat.le_of_ble_eq_true rfl) (fun X g hrt hno hE hN hR hI => ?_)
  subst hE
  have hX0 := hX
  obtain ⟨qx, qs, qf, qd, qg, qh, qp, qw, qm, qe, ql, qq, qt, qr, qc, qo, qi⟩ := hX
  have k11 : kd M x % 1000 = 11 := by rw [qx.1]
  have r7 : fR M x 7 = some (B 175 0) := (qx.2.1 7 (by decide)).1
  refine z_iload_n g dX10_pull_0 rfl ?_
  refine z_aload_n g dX10_pull_1 rfl ?_
  refine z_getR g fl_X10_38 (by assumption) (by decide) rfl (by assumption) dX10_pull_2 ?_
  refine z_alenIk (k := 175) g (by rw [show kd M (B 175 0) = 175 from qx.k 7 (by decide)]) (by decide) dX10_pull_5 ?_
  rw [show ln M (B 175 0) = 4 from qx.2.2.2.1, show nI 4 = (4 : Int32) from rfl]
  refine z_callS g _ _ cs_X10_206 (c_needIx _ M s 4) rfl (by rw [hR]; decide) (by rw [hR]; decide) (by rw [hR]; decide) (Nat.le_of_ble_eq_true rfl) rfl dX10_pull_6 (fun E9 M9 h9 => by obtain ⟨h9, rfl, rfl⟩ := h9; rw [tg_e] at h9; exact zx_out g hrt hno (by decide) (by decide) ⟨rfl, ⟨by simp [cPull, h9], rfl⟩⟩) (fun r_6 M_6 h_6 => ?_)
  obtain ⟨hI_6, rfl, rfl⟩ := h_6
  have hJ_6 := hI_6
  rw [tg_e] at hI_6
  obtain ⟨i, hi, rfl⟩ := ixB_ex (n := 4) (by decide) hJ_6
  have hci : (nI i).toNatClampNeg = i := nI_clamp (by omega)
  refine z_aload_n g dX10_pull_9 rfl ?_
  refine z_getI g fl_X10_76 (by assumption) (by decide) rfl dX10_pull_10 ?_
  rw [show fI M x 10 = gi S 1 from qs.1]
  refine z_aload_n g dX10_pull_13 rfl ?_
  refine z_getR g fl_X10_38 (by assumption) (by decide) rfl (by assumption) dX10_pull_14 ?_
  refine z_iload_n g dX10_pull_17 rfl ?_
  refine z_ialdk (k := 175) g (by rw [show kd M (B 175 0) = 175 from qx.k 7 (by decide)]) (by decide) (vp_in_nI (by rw [show ln M (B 175 0) = 4 from qx.2.2.2.1]; exact hi) (by rw [show ln M (B 175 0) = 4 from qx.2.2.2.1]; decide)) dX10_pull_18 ?_
  rw [hci, qc i hi]
  refine z_isub g dX10_pull_19 ?_
  refine z_istore_n g dX10_pull_20 (by rw [hN]; decide) ?_
  refine z_aload_n g dX10_pull_21 rfl ?_
  refine z_getR g fl_X10_38 (by assumption) (by decide) rfl (by assumption) dX10_pull_22 ?_
  refine z_iload_n g dX10_pull_25 rfl ?_
  refine z_aload_n g dX10_pull_26 rfl ?_
  refine z_getI g fl_X10_76 (by assumption) (by decide) rfl dX10_pull_27 ?_
  rw [show fI M x 10 = gi S 1 from qs.1]
  refine z_iastk (k := 175) g (by rw [show kd M (B 175 0) = 175 from qx.k 7 (by decide)]) (by decide) (vp_in_nI (by rw [show ln M (B 175 0) = 4 from qx.2.2.2.1]; exact hi) (by rw [show ln M (B 175 0) = 4 from qx.2.2.2.1]; decide)) dX10_pull_30 ?_
  rw [hci]
  refine z_iload_n g dX10_pull_31 rfl ?_
  exact z_iret g hrt rfl (by decide) (by decide) dX10_pull_32 ⟨by simp [cPull, hI_6], by unfold vPull; rw [hci], (RX_pull hX0 hV (v := gi S 1) hi).2, B, by unfold sPull; rw [hci]; exact (RX_pull hX0 hV (v := gi S 1) hi).1⟩
set_option maxHeartbeats 4000000 in
set_option maxRecDepth 100000 in
theorem k_budget (E : Ev) {B : Nat → Nat → Nat} {x : Nat} {S : Ms} (M : Mm) (hX : RX B x S M) (hV : INV S) (v : Int32) : CT E yX10_budget cX10_budget 3 (some .int) 10 16 500 [.ref x, .int v] M (fun r M' => cBudget S v = 0 ∧ r = (some (.int (vBudget S v))) ∧ agr TC M M' ∧ ∃ B', RX B' x (sBudget S v) M') (fun E9 M' => M = M' ∧ ((cBudget S v = 1 ∧ E9 = IAE))) := by
  refine CT.of rfl (Nat.le_of_ble_eq_true rfl) (fun X g hrt hno hE hN hR hI => ?_)
  subst hE
  have hX0 := hX
  obtain ⟨qx, qs, qf, qd, qg, qh, qp, qw, qm, qe, ql, qq, qt, qr, qc, qo, qi⟩ := hX
  have k11 : kd M x % 1000 = 11 := by rw [qx.1]
  refine z_iload_n g dX10_budget_0 rfl ?_
  refine z_if_lt (tgt := 14) g dX10_budget_1 (by decide) (fun c_1 => ?_) (fun c_1 => ?_)
  · refine z_iconst (v := 0) g dX10_budget_14 (by decide) ?_
    exact z_callS g _ _ cs_X10_63 (c_needArg _ M false) rfl (by rw [hR]; decide) (by rw [hR]; decide) (by rw [hR]; decide) (Nat.le_of_ble_eq_true rfl) rfl dX10_budget_15 (fun E9 M9 h9 => by obtain ⟨-, rfl, rfl⟩ := h9; exact zx_out g hrt hno (by decide) (by decide) ⟨rfl, ⟨by simp [cBudget, inB_10, eq_true c_1], rfl⟩⟩) (fun _ _ h => by cases h.1)
  · refine z_iload_n g dX10_budget_4 rfl ?_
    refine z_bipush (v := 10) g dX10_budget_5 (by decide) ?_
    refine z_icmp_gt (tgt := 14) g dX10_budget_7 (by decide) (fun c_7 => ?_) (fun c_7 => ?_)
    · refine z_iconst (v := 0) g dX10_budget_14 (by decide) ?_
      exact z_callS g _ _ cs_X10_63 (c_needArg _ M false) rfl (by rw [hR]; decide) (by rw [hR]; decide) (by rw [hR]; decide) (Nat.le_of_ble_eq_true rfl) rfl dX10_budget_15 (fun E9 M9 h9 => by obtain ⟨-, rfl, rfl⟩ := h9; exact zx_out g hrt hno (by decide) (by decide) ⟨rfl, ⟨by simp [cBudget, inB_10, eq_false c_1, eq_true c_7], rfl⟩⟩) (fun _ _ h => by cases h.1)
    · refine z_iconst (v := 1) g dX10_budget_10 (by decide) ?_
      refine z_goto (tgt := 15) g dX10_budget_11 (by decide) ?_
      refine z_callS g _ _ cs_X10_63 (c_needArg _ M true) rfl (by rw [hR]; decide) (by rw [hR]; decide) (by rw [hR]; decide) (Nat.le_of_ble_eq_true rfl) rfl dX10_budget_15 (fun _ _ h => by cases h.1) (fun r_15 M_15 h_15 => ?_)
      obtain ⟨-, rfl, rfl⟩ := h_15
      refine z_aload_n g dX10_budget_18 rfl ?_
      refine z_getI g fl_X10_48 (by assumption) (by decide) rfl dX10_budget_19 ?_
      rw [show fI M x 13 = gi S 59 from qs.2.2.2]
      refine z_istore_n g dX10_budget_22 (by rw [hN]; decide) ?_
      refine z_aload_n g dX10_budget_23 rfl ?_
      refine z_iload_n g dX10_budget_24 rfl ?_
      refine z_putI g fp_X10_48 k11 (by decide) rfl (fun h => nomatch h) dX10_budget_25 ?_
      refine z_iload_n g dX10_budget_28 rfl ?_
      exact z_iret g hrt rfl (by decide) (by decide) dX10_budget_29 ⟨by simp [cBudget, inB_10, eq_false c_1, eq_false c_7], rfl, (RX_budget hX0 hV (v := v)).2, B, by unfold sBudget; exact (RX_budget hX0 hV (v := v)).1⟩
set_option maxHeartbeats 4000000 in
set_option maxRecDepth 100000 in
theorem k_law (E : Ev) {B : Nat → Nat → Nat} {x : Nat} {S : Ms} (M : Mm) (hX : RX B x S M) (hV : INV S) (t d l p q : Int32) : CT E yX10_law cX10_law 7 (some .int) 10 16 500 [.ref x, .int t, .int d, .int l, .int p, .int q] M (fun r M' => cLawc S t d l p q = 0 ∧ r = (some (.int (vLawc S t d l p q))) ∧ agr TC M M' ∧ ∃ B', RX B' x (sLawc S t d l p q) M') (fun E9 M' => M = M' ∧ ((cLawc S t d l p q = 1 ∧ E9 = IOE) ∨ (cLawc S t d l p q = 2 ∧ E9 = IAE) ∨ (cLawc S t d l p q = 3 ∧ E9 = ISE))) := by
  refine CT.of rfl (Nat.le_of_ble_eq_true rfl) (fun X g hrt hno hE hN hR hI => ?_)
  subst hE
  have hX0 := hX
  obtain ⟨qx, qs, qf, qd, qg, qh, qp, qw, qm, qe, ql, qq, qt, qr, qc, qo, qi⟩ := hX
  have k11 : kd M x % 1000 = 11 := by rw [qx.1]
  have r1 : fR M x 1 = some (B 401 0) := (qx.2.1 1 (by decide)).1
  have kl1 : kd M (B 401 0) = 401 := (qx.2.1 1 (by decide)).2
  have l1 : LK M (B 401 0) 6 := ql.LK kl1 hV
  have m1 := l1.1
  have n1 : ln M (B 401 0) = cn S 24 := ql.1
  have b1 := l1.2.1
  rw [n1] at b1
  have hc := hV.1.2.2.2.1
  refine z_iload_n g dX10_law_0 rfl ?_
  refine z_callS g _ _ cs_X10_144 (c_needTg _ M t) rfl (by rw [hR]; decide) (by rw [hR]; decide) (by rw [hR]; decide) (Nat.le_of_ble_eq_true rfl) rfl dX10_law_1 (fun E9 M9 h9 => by obtain ⟨h9, rfl, rfl⟩ := h9; rw [tg_e] at h9; exact zx_out g hrt hno (by decide) (by decide) ⟨rfl, Or.inl ⟨by simp [cLawc, h9], rfl⟩⟩) (fun r_1 M_1 h_1 => ?_)
  obtain ⟨hT_1, rfl, rfl⟩ := h_1
  rw [tg_e] at hT_1
  refine z_iload_n g dX10_law_4 rfl ?_
  refine z_callS g _ _ cs_X10_100 (c_isDay _ M d) rfl (by rw [hR]; decide) (by rw [hR]; decide) (by rw [hR]; decide) (Nat.le_of_ble_eq_true rfl) rfl dX10_law_5 (fun _ _ h => False.elim h) (fun r_5 M_5 h_5 => ?_)
  obtain ⟨rfl, rfl⟩ := h_5
  rw [show dayB d = inB d 0 9999 from rfl]
  refine z_if_eq (tgt := 38) g dX10_law_8 (by decide) (fun c_8 => ?_) (fun c_8 => ?_)
  · first | rw [b2i_n0] at c_8 | rw [b2i_0] at c_8 | skip
    refine z_iconst (v := 0) g dX10_law_38 (by decide) ?_
    exact z_callS g _ _ cs_X10_63 (c_needArg _ M false) rfl (by rw [hR]; decide) (by rw [hR]; decide) (by rw [hR]; decide) (Nat.le_of_ble_eq_true rfl) rfl dX10_law_39 (fun E9 M9 h9 => by obtain ⟨-, rfl, rfl⟩ := h9; exact zx_out g hrt hno (by decide) (by decide) ⟨rfl, Or.inr (Or.inl ⟨by simp [cLawc, hT_1, c_8], rfl⟩)⟩) (fun _ _ h => by cases h.1)
  · first | rw [b2i_n0] at c_8 | rw [b2i_0] at c_8 | skip
    refine z_iload_n g dX10_law_11 rfl ?_
    refine z_callS g _ _ cs_X10_166 (c_isLet _ M l) rfl (by rw [hR]; decide) (by rw [hR]; decide) (by rw [hR]; decide) (Nat.le_of_ble_eq_true rfl) rfl dX10_law_12 (fun _ _ h => False.elim h) (fun r_12 M_12 h_12 => ?_)
    obtain ⟨rfl, rfl⟩ := h_12
    rw [show letB l = inB l 1 26 from rfl]
    refine z_if_eq (tgt := 38) g dX10_law_15 (by decide) (fun c_15 => ?_) (fun c_15 => ?_)
    · first | rw [b2i_n0] at c_15 | rw [b2i_0] at c_15 | skip
      refine z_iconst (v := 0) g dX10_law_38 (by decide) ?_
      exact z_callS g _ _ cs_X10_63 (c_needArg _ M false) rfl (by rw [hR]; decide) (by rw [hR]; decide) (by rw [hR]; decide) (Nat.le_of_ble_eq_true rfl) rfl dX10_law_39 (fun E9 M9 h9 => by obtain ⟨-, rfl, rfl⟩ := h9; exact zx_out g hrt hno (by decide) (by decide) ⟨rfl, Or.inr (Or.inl ⟨by simp [cLawc, hT_1, c_8, c_15], rfl⟩)⟩) (fun _ _ h => by cases h.1)
    · first | rw [b2i_n0] at c_15 | rw [b2i_0] at c_15 | skip
      refine z_iload g dX10_law_18 rfl ?_
      refine z_callS g _ _ cs_X10_169 (c_isLetN _ M p) rfl (by rw [hR]; decide) (by rw [hR]; decide) (by rw [hR]; decide) (Nat.le_of_ble_eq_true rfl) rfl dX10_law_20 (fun _ _ h => False.elim h) (fun r_20 M_20 h_20 => ?_)
      obtain ⟨rfl, rfl⟩ := h_20
      rw [letN_e]
      refine z_if_eq (tgt := 38) g dX10_law_23 (by decide) (fun c_23 => ?_) (fun c_23 => ?_)
      · first | rw [b2i_n0] at c_23 | rw [b2i_0] at c_23 | skip
        refine z_iconst (v := 0) g dX10_law_38 (by decide) ?_
        exact z_callS g _ _ cs_X10_63 (c_needArg _ M false) rfl (by rw [hR]; decide) (by rw [hR]; decide) (by rw [hR]; decide) (Nat.le_of_ble_eq_true rfl) rfl dX10_law_39 (fun E9 M9 h9 => by obtain ⟨-, rfl, rfl⟩ := h9; exact zx_out g hrt hno (by decide) (by decide) ⟨rfl, Or.inr (Or.inl ⟨by simp [cLawc, hT_1, c_8, c_15, c_23], rfl⟩)⟩) (fun _ _ h => by cases h.1)
      · first | rw [b2i_n0] at c_23 | rw [b2i_0] at c_23 | skip
        refine z_iload g dX10_law_26 rfl ?_
        refine z_callS g _ _ cs_X10_169 (c_isLetN _ M q) rfl (by rw [hR]; decide) (by rw [hR]; decide) (by rw [hR]; decide) (Nat.le_of_ble_eq_true rfl) rfl dX10_law_28 (fun _ _ h => False.elim h) (fun r_28 M_28 h_28 => ?_)
        obtain ⟨rfl, rfl⟩ := h_28
        rw [letN_e]
        refine z_if_eq (tgt := 38) g dX10_law_31 (by decide) (fun c_31 => ?_) (fun c_31 => ?_)
        · first | rw [b2i_n0] at c_31 | rw [b2i_0] at c_31 | skip
          refine z_iconst (v := 0) g dX10_law_38 (by decide) ?_
          exact z_callS g _ _ cs_X10_63 (c_needArg _ M false) rfl (by rw [hR]; decide) (by rw [hR]; decide) (by rw [hR]; decide) (Nat.le_of_ble_eq_true rfl) rfl dX10_law_39 (fun E9 M9 h9 => by obtain ⟨-, rfl, rfl⟩ := h9; exact zx_out g hrt hno (by decide) (by decide) ⟨rfl, Or.inr (Or.inl ⟨by simp [cLawc, hT_1, c_8, c_15, c_23, c_31], rfl⟩)⟩) (fun _ _ h => by cases h.1)
        · first | rw [b2i_n0] at c_31 | rw [b2i_0] at c_31 | skip
          refine z_iconst (v := 1) g dX10_law_34 (by decide) ?_
          refine z_goto (tgt := 39) g dX10_law_35 (by decide) ?_
          refine z_callS g _ _ cs_X10_63 (c_needArg _ M true) rfl (by rw [hR]; decide) (by rw [hR]; decide) (by rw [hR]; decide) (Nat.le_of_ble_eq_true rfl) rfl dX10_law_39 (fun _ _ h => by cases h.1) (fun r_39 M_39 h_39 => ?_)
          obtain ⟨-, rfl, rfl⟩ := h_39
          have h0p : (0 < p) ↔ ¬ p = 0 := fst_e c_23
          refine z_iload g dX10_law_42 rfl ?_
          refine z_if_ne (tgt := 52) g dX10_law_44 (by decide) (fun c_44 => ?_) (fun c_44 => ?_)
          · refine z_iconst (v := 1) g dX10_law_52 (by decide) ?_
            refine z_goto (tgt := 57) g dX10_law_53 (by decide) ?_
            refine z_callS g _ _ cs_X10_63 (c_needArg _ M true) rfl (by rw [hR]; decide) (by rw [hR]; decide) (by rw [hR]; decide) (Nat.le_of_ble_eq_true rfl) rfl dX10_law_57 (fun _ _ h => by cases h.1) (fun r_57 M_57 h_57 => ?_)
            obtain ⟨-, rfl, rfl⟩ := h_57
            refine z_aload_n g dX10_law_60 rfl ?_
            refine z_getR g fl_X10_16 (by assumption) (by decide) rfl (by assumption) dX10_law_61 ?_
            refine z_callL g _ _ cv_X10_67 rfl (c_alsize _ M (B 401 0) l1.1) (by assumption) rfl (by rw [hR]; decide) (by rw [hR]; decide) (by rw [hR]; decide) (Nat.le_of_ble_eq_true rfl) rfl dX10_law_64 (fun _ _ h => False.elim h) (fun r_64 M_64 h_64 => ?_)
            obtain ⟨rfl, rfl⟩ := h_64
            rw [n1]
            refine z_bipush (v := 12) g dX10_law_67 (by decide) ?_
            refine z_icmp_ge (tgt := 76) g dX10_law_69 (by decide) (fun c_69 => ?_) (fun c_69 => ?_)
            · have h17 : gi S 24 = 12 := hc.1.trans (cnt_ge (v := nI (cn S 24)) (N := 12) rfl hc.2 (by decide) c_69)
              refine z_iconst (v := 0) g dX10_law_76 (by decide) ?_
              exact z_callS g _ _ cs_X10_71 (c_needSt _ M false) rfl (by rw [hR]; decide) (by rw [hR]; decide) (by rw [hR]; decide) (Nat.le_of_ble_eq_true rfl) rfl dX10_law_77 (fun E9 M9 h9 => by obtain ⟨-, rfl, rfl⟩ := h9; exact zx_out g hrt hno (by decide) (by decide) ⟨rfl, Or.inr (Or.inr (⟨by simp [cLawc, hT_1, h0p, h17, c_8, c_15, c_23, c_31, eq_false c_44], rfl⟩))⟩) (fun _ _ h => by cases h.1)
            · have h17 : ¬ gi S 24 = 12 := fun z => (cnt_lt (v := nI (cn S 24)) (N := 12) rfl hc.2 (by decide) c_69).1 (hc.1.symm.trans z)
              have hlt := (cnt_lt (v := nI (cn S 24)) (N := 12) rfl hc.2 (by decide) c_69).2
              obtain ⟨dn, hdn, rfl⟩ := day_ex c_8
              refine z_iconst (v := 1) g dX10_law_72 (by decide) ?_
              refine z_goto (tgt := 77) g dX10_law_73 (by decide) ?_
              refine z_callS g _ _ cs_X10_71 (c_needSt _ M true) rfl (by rw [hR]; decide) (by rw [hR]; decide) (by rw [hR]; decide) (Nat.le_of_ble_eq_true rfl) rfl dX10_law_77 (fun _ _ h => by cases h.1) (fun r_77 M_77 h_77 => ?_)
              obtain ⟨-, rfl, rfl⟩ := h_77
              have hxk : kd M x ≠ 0 := by rw [qx.1]; decide
              refine z_new g (6) nw_X10_172 (by omega) (by decide) (by rw [hR]; decide) (by rw [hR]; decide) dX10_law_80 (fun e he => ?_)
              have hxe : x ≠ e := fun z => hxk (by rw [z]; exact he)
              have hw : nwc M (sI (sI (sI (sI (sI (sI (al M e 6 0) e 0 t) e 1 (nI dn)) e 2 (gi S 1)) e 3 l) e 4 p) e 5 q) e := ⟨he, fun b hb => by
                have hne : b ≠ e := fun z => hb (by rw [z]; exact he)
                exact ((((((same.al hne).tr (same.sI hne)).tr (same.sI hne)).tr (same.sI hne)).tr (same.sI hne)).tr (same.sI hne)).tr (same.sI hne)⟩
              refine z_dup g dX10_law_83 rfl ?_
              refine z_iload_n g dX10_law_84 rfl ?_
              refine z_iload_n g dX10_law_85 rfl ?_
              refine z_aload_n g dX10_law_86 rfl ?_
              refine z_getI g fl_X10_76 (by rw [kd_al, if_neg hxe]; exact k11) (by decide) rfl dX10_law_87 ?_
              rw [show fI (al M e (6) 0) x 10 = gi S 1 from by rw [fI_al, if_neg hxe]; exact qs.1]
              refine z_iload_n g dX10_law_90 rfl ?_
              refine z_iload g dX10_law_91 rfl ?_
              refine z_iload g dX10_law_93 rfl ?_
              refine z_callI g _ _ ci_X10_174 (c_X5i _ _ e (by rw [kd_al, if_pos rfl]) t (nI dn) (gi S 1) l p q) rfl (by rw [hR]; decide) (by rw [hR]; decide) (by rw [hR]; decide) (Nat.le_of_ble_eq_true rfl) rfl dX10_law_95 (fun _ _ h => False.elim h) (fun r_95 M_95 h_95 => ?_)
              obtain ⟨rfl, rfl⟩ := h_95
              refine z_astore g dX10_law_98 (by rw [hN]; decide) ?_
              refine z_aload_n g dX10_law_100 rfl ?_
              have kx2 : kd (sI (sI (sI (sI (sI (sI (al M e 6 0) e 0 t) e 1 (nI dn)) e 2 (gi S 1)) e 3 l) e 4 p) e 5 q) x % 1000 = 11 := by rw [nwc_kd hw hxk]; exact k11
              have fr1 : fR (sI (sI (sI (sI (sI (sI (al M e 6 0) e 0 t) e 1 (nI dn)) e 2 (gi S 1)) e 3 l) e 4 p) e 5 q) x 1 = some (B 401 0) := by rw [nwc_fR hw hxk]; exact r1
              have kl0 : kd M (B 401 0) ≠ 0 := by rw [kl1]; decide
              have hX1 : RX B x S (sI (sI (sI (sI (sI (sI (al M e 6 0) e 0 t) e 1 (nI dn)) e 2 (gi S 1)) e 3 l) e 4 p) e 5 q) := hX0.all hV (T := fun _ _ => False) (nwc_agr hw) (fun _ _ _ z => z)
              have LKn := LK_nwc hw l1 (by decide)
              have hl100 : ln (sI (sI (sI (sI (sI (sI (al M e 6 0) e 0 t) e 1 (nI dn)) e 2 (gi S 1)) e 3 l) e 4 p) e 5 q) (B 401 0) < 100 := by rw [nwc_ln hw kl0, n1]; omega
              refine z_getR g fl_X10_16 kx2 (by decide) rfl fr1 dX10_law_101 ?_
              refine z_aload_n g dX10_law_104 rfl ?_
              refine z_iload_n g dX10_law_105 rfl ?_
              refine z_callV g _ _ cv_X10_177 (k_plLaw _ (sI (sI (sI (sI (sI (sI (al M e 6 0) e 0 t) e 1 (nI dn)) e 2 (gi S 1)) e 3 l) e 4 p) e 5 q) hX1 hV (nI dn)) kx2 (by decide) rfl (by rw [hR]; decide) (by rw [hR]; decide) (by rw [hR]; decide) (Nat.le_of_ble_eq_true rfl) rfl dX10_law_106 (fun _ _ h => False.elim h) (fun r_106 M_106 h_106 => ?_)
              obtain ⟨i, hi, hlo, hhi, rfl, rfl⟩ := h_106
              have hel : ∀ k, k < cn S 24 → fI (sI (sI (sI (sI (sI (sI (al M e 6 0) e 0 t) e 1 (nI dn)) e 2 (gi S 1)) e 3 l) e 4 p) e 5 q) (elt (sI (sI (sI (sI (sI (sI (al M e 6 0) e 0 t) e 1 (nI dn)) e 2 (gi S 1)) e 3 l) e 4 p) e 5 q) (B 401 0) k) 1 = fI M (elt M (B 401 0) k) 1 := fun k hk => by
                rw [show elt (sI (sI (sI (sI (sI (sI (al M e 6 0) e 0 t) e 1 (nI dn)) e 2 (gi S 1)) e 3 l) e 4 p) e 5 q) (B 401 0) k = elt M (B 401 0) k from elt_eq (nwc_fR hw kl0 k)]
                have h6 := (l1.2.2 k (by rw [n1]; exact hk)).2
                exact (congrFun (hw.2 _ (fun z => by rw [z] at h6; cases h6)).2.1 1).symm
              refine z_aload g dX10_law_109 rfl ?_
              refine z_callL g _ _ cv_X10_180 rfl (c_addAt _ (sI (sI (sI (sI (sI (sI (al M e 6 0) e 0 t) e 1 (nI dn)) e 2 (gi S 1)) e 3 l) e 4 p) e 5 q) (B 401 0) e i LKn.1 hl100 (by rw [nwc_ln hw kl0, n1]; exact hi) (by rw [show kd (sI (sI (sI (sI (sI (sI (al M e 6 0) e 0 t) e 1 (nI dn)) e 2 (gi S 1)) e 3 l) e 4 p) e 5 q) e = 6 from by show kd (al M e 6 0) e = 6; rw [kd_al, if_pos rfl]]; decide) (LKn.el (by decide) (by decide))) LKn.1 rfl (by rw [hR]; decide) (by rw [hR]; decide) (by rw [hR]; decide) (Nat.le_of_ble_eq_true rfl) rfl dX10_law_111 (fun _ _ h => False.elim h) (fun r_111 M_111 h_111 => ?_)
              obtain ⟨rfl, rfl⟩ := h_111
              refine z_aload_n g dX10_law_114 rfl ?_
              have hxl : x ≠ B 401 0 := fun z => by have := qx.1; rw [z, kl1] at this; cases this
              have kx3 : kd (sN (sW (sI (sI (sI (sI (sI (sI (al M e 6 0) e 0 t) e 1 (nI dn)) e 2 (gi S 1)) e 3 l) e 4 p) e 5 q) (B 401 0) (insR (fR (sI (sI (sI (sI (sI (sI (al M e 6 0) e 0 t) e 1 (nI dn)) e 2 (gi S 1)) e 3 l) e 4 p) e 5 q) (B 401 0)) i e)) (B 401 0) (ln (sI (sI (sI (sI (sI (sI (al M e 6 0) e 0 t) e 1 (nI dn)) e 2 (gi S 1)) e 3 l) e 4 p) e 5 q) (B 401 0) + 1)) x % 1000 = 11 := kx2
              have fr3 : fR (sN (sW (sI (sI (sI (sI (sI (sI (al M e 6 0) e 0 t) e 1 (nI dn)) e 2 (gi S 1)) e 3 l) e 4 p) e 5 q) (B 401 0) (insR (fR (sI (sI (sI (sI (sI (sI (al M e 6 0) e 0 t) e 1 (nI dn)) e 2 (gi S 1)) e 3 l) e 4 p) e 5 q) (B 401 0)) i e)) (B 401 0) (ln (sI (sI (sI (sI (sI (sI (al M e 6 0) e 0 t) e 1 (nI dn)) e 2 (gi S 1)) e 3 l) e 4 p) e 5 q) (B 401 0) + 1)) x 1 = some (B 401 0) := by
                rw [← fr1]
                exact congrFun (same.sW (M := sI (sI (sI (sI (sI (sI (al M e 6 0) e 0 t) e 1 (nI dn)) e 2 (gi S 1)) e 3 l) e 4 p) e 5 q) (f := insR (fR (sI (sI (sI (sI (sI (sI (al M e 6 0) e 0 t) e 1 (nI dn)) e 2 (gi S 1)) e 3 l) e 4 p) e 5 q) (B 401 0)) i e) hxl).2.2.2.1.symm 1
              have kk2 : 400 ≤ kd (sN (sW (sI (sI (sI (sI (sI (sI (al M e 6 0) e 0 t) e 1 (nI dn)) e 2 (gi S 1)) e 3 l) e 4 p) e 5 q) (B 401 0) (insR (fR (sI (sI (sI (sI (sI (sI (al M e 6 0) e 0 t) e 1 (nI dn)) e 2 (gi S 1)) e 3 l) e 4 p) e 5 q) (B 401 0)) i e)) (B 401 0) (ln (sI (sI (sI (sI (sI (sI (al M e 6 0) e 0 t) e 1 (nI dn)) e 2 (gi S 1)) e 3 l) e 4 p) e 5 q) (B 401 0) + 1)) (B 401 0) % 1000 := LKn.1
              refine z_getR g fl_X10_16 kx3 (by decide) rfl fr3 dX10_law_115 ?_
              refine z_callL g _ _ cv_X10_67 rfl (c_alsize _ (sN (sW (sI (sI (sI (sI (sI (sI (al M e 6 0) e 0 t) e 1 (nI dn)) e 2 (gi S 1)) e 3 l) e 4 p) e 5 q) (B 401 0) (insR (fR (sI (sI (sI (sI (sI (sI (al M e 6 0) e 0 t) e 1 (nI dn)) e 2 (gi S 1)) e 3 l) e 4 p) e 5 q) (B 401 0)) i e)) (B 401 0) (ln (sI (sI (sI (sI (sI (sI (al M e 6 0) e 0 t) e 1 (nI dn)) e 2 (gi S 1)) e 3 l) e 4 p) e 5 q) (B 401 0) + 1)) (B 401 0) kk2) kk2 rfl (by rw [hR]; decide) (by rw [hR]; decide) (by rw [hR]; decide) (Nat.le_of_ble_eq_true rfl) rfl dX10_law_118 (fun _ _ h => False.elim h) (fun r_118 M_118 h_118 => ?_)
              obtain ⟨rfl, rfl⟩ := h_118
              have hlv : ln (sN (sW (sI (sI (sI (sI (sI (sI (al M e 6 0) e 0 t) e 1 (nI dn)) e 2 (gi S 1)) e 3 l) e 4 p) e 5 q) (B 401 0) (insR (fR (sI (sI (sI (sI (sI (sI (al M e 6 0) e 0 t) e 1 (nI dn)) e 2 (gi S 1)) e 3 l) e 4 p) e 5 q) (B 401 0)) i e)) (B 401 0) (ln (sI (sI (sI (sI (sI (sI (al M e 6 0) e 0 t) e 1 (nI dn)) e 2 (gi S 1)) e 3 l) e 4 p) e 5 q) (B 401 0) + 1)) (B 401 0) = cn S 24 + 1 := by rw [ln_sN, if_pos rfl, nwc_ln hw kl0, n1]
              rw [hlv]
              exact z_iret g hrt rfl (by decide) (by decide) dX10_law_121 ⟨by simp [cLawc, hT_1, h0p, h17, c_8, c_15, c_23, c_31, eq_false c_44], rfl, (RX_law hX0 hV (t := t) (l := l) (p := p) (q := q) hlt hdn he hi (fun k hk => by rw [← hel k (by omega)]; exact hlo k hk) (fun h => by rw [← hel i h]; exact hhi h)).2, B, by unfold sLawc; exact (RX_law hX0 hV (t := t) (l := l) (p := p) (q := q) hlt hdn he hi (fun k hk => by rw [← hel k (by omega)]; exact hlo k hk) (fun h => by rw [← hel i h]; exact hhi h)).1⟩
          · refine z_iload g dX10_law_47 rfl ?_
            refine z_if_ne (tgt := 56) g dX10_law_49 (by decide) (fun c_49 => ?_) (fun c_49 => ?_)
            · refine z_iconst (v := 0) g dX10_law_56 (by decide) ?_
              exact z_callS g _ _ cs_X10_63 (c_needArg _ M false) rfl (by rw [hR]; decide) (by rw [hR]; decide) (by rw [hR]; decide) (Nat.le_of_ble_eq_true rfl) rfl dX10_law_57 (fun E9 M9 h9 => by obtain ⟨-, rfl, rfl⟩ := h9; exact zx_out g hrt hno (by decide) (by decide) ⟨rfl, Or.inr (Or.inl ⟨by simp [cLawc, hT_1, h0p, c_8, c_15, c_23, c_31, eq_true c_44, eq_false c_49], rfl⟩)⟩) (fun _ _ h => by cases h.1)
            · refine z_iconst (v := 1) g dX10_law_52 (by decide) ?_
              refine z_goto (tgt := 57) g dX10_law_53 (by decide) ?_
              refine z_callS g _ _ cs_X10_63 (c_needArg _ M true) rfl (by rw [hR]; decide) (by rw [hR]; decide) (by rw [hR]; decide) (Nat.le_of_ble_eq_true rfl) rfl dX10_law_57 (fun _ _ h => by cases h.1) (fun r_57 M_57 h_57 => ?_)
              obtain ⟨-, rfl, rfl⟩ := h_57
              refine z_aload_n g dX10_law_60 rfl ?_
              refine z_getR g fl_X10_16 (by assumption) (by decide) rfl (by assumption) dX10_law_61 ?_
              refine z_callL g _ _ cv_X10_67 rfl (c_alsize _ M (B 401 0) l1.1) (by assumption) rfl (by rw [hR]; decide) (by rw [hR]; decide) (by rw [hR]; decide) (Nat.le_of_ble_eq_true rfl) rfl dX10_law_64 (fun _ _ h => False.elim h) (fun r_64 M_64 h_64 => ?_)
              obtain ⟨rfl, rfl⟩ := h_64
              rw [n1]
              refine z_bipush (v := 12) g dX10_law_67 (by decide) ?_
              refine z_icmp_ge (tgt := 76) g dX10_law_69 (by decide) (fun c_69 => ?_) (fun c_69 => ?_)
              · have h17 : gi S 24 = 12 := hc.1.trans (cnt_ge (v := nI (cn S 24)) (N := 12) rfl hc.2 (by decide) c_69)
                refine z_iconst (v := 0) g dX10_law_76 (by decide) ?_
                exact z_callS g _ _ cs_X10_71 (c_needSt _ M false) rfl (by rw [hR]; decide) (by rw [hR]; decide) (by rw [hR]; decide) (Nat.le_of_ble_eq_true rfl) rfl dX10_law_77 (fun E9 M9 h9 => by obtain ⟨-, rfl, rfl⟩ := h9; exact zx_out g hrt hno (by decide) (by decide) ⟨rfl, Or.inr (Or.inr (⟨by simp [cLawc, hT_1, h0p, h17, c_8, c_15, c_23, c_31, eq_true c_44, eq_true c_49], rfl⟩))⟩) (fun _ _ h => by cases h.1)
              · have h17 : ¬ gi S 24 = 12 := fun z => (cnt_lt (v := nI (cn S 24)) (N := 12) rfl hc.2 (by decide) c_69).1 (hc.1.symm.trans z)
                have hlt := (cnt_lt (v := nI (cn S 24)) (N := 12) rfl hc.2 (by decide) c_69).2
                obtain ⟨dn, hdn, rfl⟩ := day_ex c_8
                refine z_iconst (v := 1) g dX10_law_72 (by decide) ?_
                refine z_goto (tgt := 77) g dX10_law_73 (by decide) ?_
                refine z_callS g _ _ cs_X10_71 (c_needSt _ M true) rfl (by rw [hR]; decide) (by rw [hR]; decide) (by rw [hR]; decide) (Nat.le_of_ble_eq_true rfl) rfl dX10_law_77 (fun _ _ h => by cases h.1) (fun r_77 M_77 h_77 => ?_)
                obtain ⟨-, rfl, rfl⟩ := h_77
                have hxk : kd M x ≠ 0 := by rw [qx.1]; decide
                refine z_new g (6) nw_X10_172 (by omega) (by decide) (by rw [hR]; decide) (by rw [hR]; decide) dX10_law_80 (fun e he => ?_)
                have hxe : x ≠ e := fun z => hxk (by rw [z]; exact he)
                have hw : nwc M (sI (sI (sI (sI (sI (sI (al M e 6 0) e 0 t) e 1 (nI dn)) e 2 (gi S 1)) e 3 l) e 4 p) e 5 q) e := ⟨he, fun b hb => by
                  have hne : b ≠ e := fun z => hb (by rw [z]; exact he)
                  exact ((((((same.al hne).tr (same.sI hne)).tr (same.sI hne)).tr (same.sI hne)).tr (same.sI hne)).tr (same.sI hne)).tr (same.sI hne)⟩
                refine z_dup g dX10_law_83 rfl ?_
                refine z_iload_n g dX10_law_84 rfl ?_
                refine z_iload_n g dX10_law_85 rfl ?_
                refine z_aload_n g dX10_law_86 rfl ?_
                refine z_getI g fl_X10_76 (by rw [kd_al, if_neg hxe]; exact k11) (by decide) rfl dX10_law_87 ?_
                rw [show fI (al M e (6) 0) x 10 = gi S 1 from by rw [fI_al, if_neg hxe]; exact qs.1]
                refine z_iload_n g dX10_law_90 rfl ?_
                refine z_iload g dX10_law_91 rfl ?_
                refine z_iload g dX10_law_93 rfl ?_
                refine z_callI g _ _ ci_X10_174 (c_X5i _ _ e (by rw [kd_al, if_pos rfl]) t (nI dn) (gi S 1) l p q) rfl (by rw [hR]; decide) (by rw [hR]; decide) (by rw [hR]; decide) (Nat.le_of_ble_eq_true rfl) rfl dX10_law_95 (fun _ _ h => False.elim h) (fun r_95 M_95 h_95 => ?_)
                obtain ⟨rfl, rfl⟩ := h_95
                refine z_astore g dX10_law_98 (by rw [hN]; decide) ?_
                refine z_aload_n g dX10_law_100 rfl ?_
                have kx2 : kd (sI (sI (sI (sI (sI (sI (al M e 6 0) e 0 t) e 1 (nI dn)) e 2 (gi S 1)) e 3 l) e 4 p) e 5 q) x % 1000 = 11 := by rw [nwc_kd hw hxk]; exact k11
                have fr1 : fR (sI (sI (sI (sI (sI (sI (al M e 6 0) e 0 t) e 1 (nI dn)) e 2 (gi S 1)) e 3 l) e 4 p) e 5 q) x 1 = some (B 401 0) := by rw [nwc_fR hw hxk]; exact r1
                have kl0 : kd M (B 401 0) ≠ 0 := by rw [kl1]; decide
                have hX1 : RX B x S (sI (sI (sI (sI (sI (sI (al M e 6 0) e 0 t) e 1 (nI dn)) e 2 (gi S 1)) e 3 l) e 4 p) e 5 q) := hX0.all hV (T := fun _ _ => False) (nwc_agr hw) (fun _ _ _ z => z)
                have LKn := LK_nwc hw l1 (by decide)
                have hl100 : ln (sI (sI (sI (sI (sI (sI (al M e 6 0) e 0 t) e 1 (nI dn)) e 2 (gi S 1)) e 3 l) e 4 p) e 5 q) (B 401 0) < 100 := by rw [nwc_ln hw kl0, n1]; omega
                refine z_getR g fl_X10_16 kx2 (by decide) rfl fr1 dX10_law_101 ?_
                refine z_aload_n g dX10_law_104 rfl ?_
                refine z_iload_n g dX10_law_105 rfl ?_
                refine z_callV g _ _ cv_X10_177 (k_plLaw _ (sI (sI (sI (sI (sI (sI (al M e 6 0) e 0 t) e 1 (nI dn)) e 2 (gi S 1)) e 3 l) e 4 p) e 5 q) hX1 hV (nI dn)) kx2 (by decide) rfl (by rw [hR]; decide) (by rw [hR]; decide) (by rw [hR]; decide) (Nat.le_of_ble_eq_true rfl) rfl dX10_law_106 (fun _ _ h => False.elim h) (fun r_106 M_106 h_106 => ?_)
                obtain ⟨i, hi, hlo, hhi, rfl, rfl⟩ := h_106
                have hel : ∀ k, k < cn S 24 → fI (sI (sI (sI (sI (sI (sI (al M e 6 0) e 0 t) e 1 (nI dn)) e 2 (gi S 1)) e 3 l) e 4 p) e 5 q) (elt (sI (sI (sI (sI (sI (sI (al M e 6 0) e 0 t) e 1 (nI dn)) e 2 (gi S 1)) e 3 l) e 4 p) e 5 q) (B 401 0) k) 1 = fI M (elt M (B 401 0) k) 1 := fun k hk => by
                  rw [show elt (sI (sI (sI (sI (sI (sI (al M e 6 0) e 0 t) e 1 (nI dn)) e 2 (gi S 1)) e 3 l) e 4 p) e 5 q) (B 401 0) k = elt M (B 401 0) k from elt_eq (nwc_fR hw kl0 k)]
                  have h6 := (l1.2.2 k (by rw [n1]; exact hk)).2
                  exact (congrFun (hw.2 _ (fun z => by rw [z] at h6; cases h6)).2.1 1).symm
                refine z_aload g dX10_law_109 rfl ?_
                refine z_callL g _ _ cv_X10_180 rfl (c_addAt _ (sI (sI (sI (sI (sI (sI (al M e 6 0) e 0 t) e 1 (nI dn)) e 2 (gi S 1)) e 3 l) e 4 p) e 5 q) (B 401 0) e i LKn.1 hl100 (by rw [nwc_ln hw kl0, n1]; exact hi) (by rw [show kd (sI (sI (sI (sI (sI (sI (al M e 6 0) e 0 t) e 1 (nI dn)) e 2 (gi S 1)) e 3 l) e 4 p) e 5 q) e = 6 from by show kd (al M e 6 0) e = 6; rw [kd_al, if_pos rfl]]; decide) (LKn.el (by decide) (by decide))) LKn.1 rfl (by rw [hR]; decide) (by rw [hR]; decide) (by rw [hR]; decide) (Nat.le_of_ble_eq_true rfl) rfl dX10_law_111 (fun _ _ h => False.elim h) (fun r_111 M_111 h_111 => ?_)
                obtain ⟨rfl, rfl⟩ := h_111
                refine z_aload_n g dX10_law_114 rfl ?_
                have hxl : x ≠ B 401 0 := fun z => by have := qx.1; rw [z, kl1] at this; cases this
                have kx3 : kd (sN (sW (sI (sI (sI (sI (sI (sI (al M e 6 0) e 0 t) e 1 (nI dn)) e 2 (gi S 1)) e 3 l) e 4 p) e 5 q) (B 401 0) (insR (fR (sI (sI (sI (sI (sI (sI (al M e 6 0) e 0 t) e 1 (nI dn)) e 2 (gi S 1)) e 3 l) e 4 p) e 5 q) (B 401 0)) i e)) (B 401 0) (ln (sI (sI (sI (sI (sI (sI (al M e 6 0) e 0 t) e 1 (nI dn)) e 2 (gi S 1)) e 3 l) e 4 p) e 5 q) (B 401 0) + 1)) x % 1000 = 11 := kx2
                have fr3 : fR (sN (sW (sI (sI (sI (sI (sI (sI (al M e 6 0) e 0 t) e 1 (nI dn)) e 2 (gi S 1)) e 3 l) e 4 p) e 5 q) (B 401 0) (insR (fR (sI (sI (sI (sI (sI (sI (al M e 6 0) e 0 t) e 1 (nI dn)) e 2 (gi S 1)) e 3 l) e 4 p) e 5 q) (B 401 0)) i e)) (B 401 0) (ln (sI (sI (sI (sI (sI (sI (al M e 6 0) e 0 t) e 1 (nI dn)) e 2 (gi S 1)) e 3 l) e 4 p) e 5 q) (B 401 0) + 1)) x 1 = some (B 401 0) := by
                  rw [← fr1]
                  exact congrFun (same.sW (M := sI (sI (sI (sI (sI (sI (al M e 6 0) e 0 t) e 1 (nI dn)) e 2 (gi S 1)) e 3 l) e 4 p) e 5 q) (f := insR (fR (sI (sI (sI (sI (sI (sI (al M e 6 0) e 0 t) e 1 (nI dn)) e 2 (gi S 1)) e 3 l) e 4 p) e 5 q) (B 401 0)) i e) hxl).2.2.2.1.symm 1
                have kk2 : 400 ≤ kd (sN (sW (sI (sI (sI (sI (sI (sI (al M e 6 0) e 0 t) e 1 (nI dn)) e 2 (gi S 1)) e 3 l) e 4 p) e 5 q) (B 401 0) (insR (fR (sI (sI (sI (sI (sI (sI (al M e 6 0) e 0 t) e 1 (nI dn)) e 2 (gi S 1)) e 3 l) e 4 p) e 5 q) (B 401 0)) i e)) (B 401 0) (ln (sI (sI (sI (sI (sI (sI (al M e 6 0) e 0 t) e 1 (nI dn)) e 2 (gi S 1)) e 3 l) e 4 p) e 5 q) (B 401 0) + 1)) (B 401 0) % 1000 := LKn.1
                refine z_getR g fl_X10_16 kx3 (by decide) rfl fr3 dX10_law_115 ?_
                refine z_callL g _ _ cv_X10_67 rfl (c_alsize _ (sN (sW (sI (sI (sI (sI (sI (sI (al M e 6 0) e 0 t) e 1 (nI dn)) e 2 (gi S 1)) e 3 l) e 4 p) e 5 q) (B 401 0) (insR (fR (sI (sI (sI (sI (sI (sI (al M e 6 0) e 0 t) e 1 (nI dn)) e 2 (gi S 1)) e 3 l) e 4 p) e 5 q) (B 401 0)) i e)) (B 401 0) (ln (sI (sI (sI (sI (sI (sI (al M e 6 0) e 0 t) e 1 (nI dn)) e 2 (gi S 1)) e 3 l) e 4 p) e 5 q) (B 401 0) + 1)) (B 401 0) kk2) kk2 rfl (by rw [hR]; decide) (by rw [hR]; decide) (by rw [hR]; decide) (Nat.le_of_ble_eq_true rfl) rfl dX10_law_118 (fun _ _ h => False.elim h) (fun r_118 M_118 h_118 => ?_)
                obtain ⟨rfl, rfl⟩ := h_118
                have hlv : ln (sN (sW (sI (sI (sI (sI (sI (sI (al M e 6 0) e 0 t) e 1 (nI dn)) e 2 (gi S 1)) e 3 l) e 4 p) e 5 q) (B 401 0) (insR (fR (sI (sI (sI (sI (sI (sI (al M e 6 0) e 0 t) e 1 (nI dn)) e 2 (gi S 1)) e 3 l) e 4 p) e 5 q) (B 401 0)) i e)) (B 401 0) (ln (sI (sI (sI (sI (sI (sI (al M e 6 0) e 0 t) e 1 (nI dn)) e 2 (gi S 1)) e 3 l) e 4 p) e 5 q) (B 401 0) + 1)) (B 401 0) = cn S 24 + 1 := by rw [ln_sN, if_pos rfl, nwc_ln hw kl0, n1]
                rw [hlv]
                exact z_iret g hrt rfl (by decide) (by decide) dX10_law_121 ⟨by simp [cLawc, hT_1, h0p, h17, c_8, c_15, c_23, c_31, eq_true c_44, eq_true c_49], rfl, (RX_law hX0 hV (t := t) (l := l) (p := p) (q := q) hlt hdn he hi (fun k hk => by rw [← hel k (by omega)]; exact hlo k hk) (fun h => by rw [← hel i h]; exact hhi h)).2, B, by unfold sLawc; exact (RX_law hX0 hV (t := t) (l := l) (p := p) (q := q) hlt hdn he hi (fun k hk => by rw [← hel k (by omega)]; exact hlo k hk) (fun h => by rw [← hel i h]; exact hhi h)).1⟩
