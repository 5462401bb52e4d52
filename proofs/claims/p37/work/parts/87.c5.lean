theorem isF_ix {S : Ms} (hV : INV S) (f : Int32) : isF S f = ixB f (nI (cn S 2)) := by
  unfold isF
  rw [hV.1.2.1.1, ixB_in (by have := hV.c2; omega)]
theorem ixB_j {n j : Nat} (h : j < n) (hn : n < 2 ^ 31) : ixB (nI j) (nI n) = true := by
  unfold ixB
  rw [decide_eq_false (nI_pos (by omega)), decide_eq_true (nI_lt h hn)]; rfl
theorem isF_j {S : Ms} (hV : INV S) {j : Nat} (hj : j < cn S 2) : isF S (nI j) = true := by
  rw [isF_ix hV]; exact ixB_j hj (by have := hV.c2; omega)
theorem INV.c36 {S : Ms} (h : INV S) : cn S 36 ≤ 16 := h.1.2.2.2.2.2.1.2
theorem isP_ix {S : Ms} (hV : INV S) (f : Int32) : isP S f = ixB f (nI (cn S 36)) := by
  unfold isP
  rw [hV.1.2.2.2.2.2.1.1, ixB_in (by have := hV.c36; omega)]
theorem isP_j {S : Ms} (hV : INV S) {j : Nat} (hj : j < cn S 36) : isP S (nI j) = true := by
  rw [isP_ix hV]; exact ixB_j hj (by have := hV.c36; omega)
theorem tg_e (t : Int32) : ixB t 4 = inB t 0 3 := (ixB_in (n := 4) (by decide) t).trans (by rw [show nI 4 - 1 = (3 : Int32) from by decide])
theorem ix_9 (t : Int32) : ixB t 9 = inB t 0 8 := (ixB_in (n := 9) (by decide) t).trans (by rw [show nI 9 - 1 = (8 : Int32) from by decide])
theorem ix_8 (t : Int32) : ixB t 8 = inB t 0 7 := (ixB_in (n := 8) (by decide) t).trans (by rw [show nI 8 - 1 = (7 : Int32) from by decide])
theorem in4_j {j : Nat} (h : j < 4) : inB (nI j) 0 3 = true := (tg_e (nI j)).symm.trans (ixB_j h (by decide))
theorem le_99 {x : Int32} : (100 : Int32) ≤ x ↔ (99 : Int32) < x := by
  rw [Int32.le_iff_toInt_le, Int32.lt_iff_toInt_lt, show (100 : Int32).toInt = 100 from by decide, show (99 : Int32).toInt = 99 from by decide]; omega
theorem plB_e (x y : Int32) : plB x y = plB2 x y := by
  unfold plB plB2 inB
  rw [show decide ((100 : Int32) ≤ x) = decide ((99 : Int32) < x) from decide_eq_decide.mpr le_99, show decide ((100 : Int32) ≤ y) = decide ((99 : Int32) < y) from decide_eq_decide.mpr le_99]
  cases decide (x < 0) <;> cases decide ((99 : Int32) < x) <;> rfl
theorem in_04 {w : Int32} (h1 : ¬ w < 0) (h2 : ¬ 4 < w) : ∃ k, k ≤ 4 ∧ w = nI k := by
  obtain ⟨k, -, hk, e⟩ := inb (a := 0) (b := 4) (v := w) (by decide) (by
    show (!decide (w < nI 0) && !decide (nI 4 < w)) = true
    rw [show nI 0 = (0 : Int32) from rfl, show nI 4 = (4 : Int32) from rfl, decide_eq_false h1, decide_eq_false h2]; rfl) (by decide)
  exact ⟨k, hk, e⟩
theorem vOf_0 (S : Ms) (f d k : Int32) : vOf S f (nI 0) d k = if thA S f.toNatClampNeg d k = true then 1 else 0 := by unfold vOf; rw [if_neg (by decide), if_pos (by decide)]
theorem vOf_1 (S : Ms) (f d k : Int32) : vOf S f (nI 1) d k = match plA S f.toNatClampNeg d k with
    | none => -1
    | some q => gA S 6 (40 * f.toNatClampNeg + q) := by
  unfold vOf; rw [if_neg (by decide), if_neg (by decide)]
  rcases plA S f.toNatClampNeg d k with _ | q
  · rfl
  · exact if_pos (by decide)
theorem vOf_2 (S : Ms) (f d k : Int32) : vOf S f (nI 2) d k = match plA S f.toNatClampNeg d k with
    | none => -1
    | some q => gA S 7 (40 * f.toNatClampNeg + q) := by
  unfold vOf; rw [if_neg (by decide), if_neg (by decide)]
  rcases plA S f.toNatClampNeg d k with _ | q
  · rfl
  · exact if_neg (by decide)
theorem vOf_3 (S : Ms) (f d k : Int32) : vOf S f (nI 3) d k = whA S f.toNatClampNeg d k := by unfold vOf; rw [if_pos (by decide), if_pos (by decide)]
theorem vOf_4 (S : Ms) (f d k : Int32) : vOf S f (nI 4) d k = if enA S f.toNatClampNeg d k = true then gA S 15 f.toNatClampNeg else -1 := by unfold vOf; rw [if_pos (by decide), if_neg (by decide)]
theorem vPt_0 (S : Ms) (p : Int32) : vPetOf S p (nI 0) = gA S 41 p.toNatClampNeg := by unfold vPetOf; rw [if_neg (by decide), if_pos (by decide)]
theorem vPt_1 (S : Ms) (p : Int32) : vPetOf S p (nI 1) = nI (pop (ca S 42 p.toNatClampNeg)) := by unfold vPetOf; rw [if_neg (by decide), if_neg (by decide), if_pos (by decide)]
theorem vPt_2 (S : Ms) (p : Int32) : vPetOf S p (nI 2) = nI (pop (ca S 43 p.toNatClampNeg)) := by unfold vPetOf; rw [if_neg (by decide), if_neg (by decide), if_neg (by decide)]
theorem vPt_3 (S : Ms) (p : Int32) : vPetOf S p (nI 3) = nI (pop (ca S 44 p.toNatClampNeg)) := by unfold vPetOf; rw [if_pos (by decide), if_pos (by decide)]
theorem vPt_4 (S : Ms) (p : Int32) : vPetOf S p (nI 4) = gA S 45 p.toNatClampNeg := by unfold vPetOf; rw [if_pos (by decide), if_neg (by decide)]
set_option maxHeartbeats 4000000 in
set_option maxRecDepth 100000 in
theorem k_callForm (E : Ev) {B : Nat → Nat → Nat} {x : Nat} {S : Ms} (M : Mm) (hX : RX B x S M) (hV : INV S) (f t d k : Int32) : CT E yX10_form cX10_form 6 (some .long) 10 16 500 [.ref x, .int f, .int t, .int d, .int k] M (fun r M' => cForm S f t d k = 0 ∧ r = (some (.long (vForm S f t d k))) ∧ agr TC M M' ∧ ∃ B', RX B' x (sForm S f t d k) M') (fun E9 M' => M = M' ∧ ((cForm S f t d k = 1 ∧ E9 = IOE) ∨ (cForm S f t d k = 2 ∧ E9 = IAE))) := by
  refine CT.of rfl (Nat.le_of_ble_eq_true rfl) (fun X g hrt hno hE hN hR hI => ?_)
  subst hE
  have hX0 := hX
  obtain ⟨qx, qs, qf, qd, qg, qh, qp, qw, qm, qe, ql, qq, qt, qr, qc, qo, qi⟩ := hX
  have k11 : kd M x % 1000 = 11 := by rw [qx.1]
  refine z_aload_n g dX10_form_0 rfl ?_
  refine z_iload_n g dX10_form_1 rfl ?_
  refine z_callV g _ _ cv_X10_96 (k_feaAt _ M hX0 hV f) (by assumption) (by decide) rfl (by rw [hR]; decide) (by rw [hR]; decide) (by rw [hR]; decide) (Nat.le_of_ble_eq_true rfl) rfl dX10_form_2 (fun E9 M9 h9 => by obtain ⟨h9, rfl, rfl⟩ := h9; have hF := (isF_ix hV f).trans h9; exact zx_out g hrt hno (by decide) (by decide) ⟨rfl, Or.inl ⟨by simp [cForm, hF], rfl⟩⟩) (fun r_2 M_2 h_2 => ?_)
  obtain ⟨j, hj, rfl, rfl, rfl⟩ := h_2
  have hF : isF S (nI j) = true := isF_j hV hj
  have hcl : (nI j).toNatClampNeg = j := nI_clamp (by have := hV.c2; omega)
  have k4 : kd M (B 4 j) % 1000 = 4 := qf.k4 hj
  obtain ⟨-, -, ⟨fk0, fk1⟩, ⟨g2, g3, g4, g5, g6⟩, ⟨k5a, k5b, -⟩, e5a, e5b, l170⟩ := qf.2 j hj
  have k5a1 : kd M (B 5 (2 * j)) % 1000 = 5 := by rw [k5a]; omega
  have k5b1 : kd M (B 5 (2 * j + 1)) % 1000 = 5 := by rw [k5b]; omega
  have k170 : kd M (B 170 j) % 1000 = 170 := qf.k170 hj
  refine z_astore g dX10_form_5 (by rw [hN]; decide) ?_
  refine z_iload_n g dX10_form_7 rfl ?_
  refine z_callS g _ _ cs_X10_144 (c_needTg _ M t) rfl (by rw [hR]; decide) (by rw [hR]; decide) (by rw [hR]; decide) (Nat.le_of_ble_eq_true rfl) rfl dX10_form_8 (fun E9 M9 h9 => by obtain ⟨h9, rfl, rfl⟩ := h9; rw [tg_e] at h9; exact zx_out g hrt hno (by decide) (by decide) ⟨rfl, Or.inl ⟨by simp [cForm, hF, hcl, h9], rfl⟩⟩) (fun r_8 M_8 h_8 => ?_)
  obtain ⟨hT_8, rfl, rfl⟩ := h_8
  rw [tg_e] at hT_8
  refine z_iload_n g dX10_form_11 rfl ?_
  refine z_callS g _ _ cs_X10_100 (c_isDay _ M d) rfl (by rw [hR]; decide) (by rw [hR]; decide) (by rw [hR]; decide) (Nat.le_of_ble_eq_true rfl) rfl dX10_form_12 (fun _ _ h => False.elim h) (fun r_12 M_12 h_12 => ?_)
  obtain ⟨rfl, rfl⟩ := h_12
  rw [show dayB d = inB d 0 9999 from rfl]
  refine z_if_eq (tgt := 30) g dX10_form_15 (by decide) (fun c_15 => ?_) (fun c_15 => ?_)
  · first | rw [b2i_n0] at c_15 | rw [b2i_0] at c_15 | skip
    refine z_iconst (v := 0) g dX10_form_30 (by decide) ?_
    exact z_callS g _ _ cs_X10_63 (c_needArg _ M false) rfl (by rw [hR]; decide) (by rw [hR]; decide) (by rw [hR]; decide) (Nat.le_of_ble_eq_true rfl) rfl dX10_form_31 (fun E9 M9 h9 => by obtain ⟨-, rfl, rfl⟩ := h9; exact zx_out g hrt hno (by decide) (by decide) ⟨rfl, Or.inr (⟨by simp [cForm, hF, hcl, hT_8, c_15], rfl⟩)⟩) (fun _ _ h => by cases h.1)
  · first | rw [b2i_n0] at c_15 | rw [b2i_0] at c_15 | skip
    refine z_iload g dX10_form_18 rfl ?_
    refine z_callS g _ _ cs_X10_100 (c_isDay _ M k) rfl (by rw [hR]; decide) (by rw [hR]; decide) (by rw [hR]; decide) (Nat.le_of_ble_eq_true rfl) rfl dX10_form_20 (fun _ _ h => False.elim h) (fun r_20 M_20 h_20 => ?_)
    obtain ⟨rfl, rfl⟩ := h_20
    rw [show dayB k = inB k 0 9999 from rfl]
    refine z_if_eq (tgt := 30) g dX10_form_23 (by decide) (fun c_23 => ?_) (fun c_23 => ?_)
    · first | rw [b2i_n0] at c_23 | rw [b2i_0] at c_23 | skip
      refine z_iconst (v := 0) g dX10_form_30 (by decide) ?_
      exact z_callS g _ _ cs_X10_63 (c_needArg _ M false) rfl (by rw [hR]; decide) (by rw [hR]; decide) (by rw [hR]; decide) (Nat.le_of_ble_eq_true rfl) rfl dX10_form_31 (fun E9 M9 h9 => by obtain ⟨-, rfl, rfl⟩ := h9; exact zx_out g hrt hno (by decide) (by decide) ⟨rfl, Or.inr (⟨by simp [cForm, hF, hcl, hT_8, c_15, c_23], rfl⟩)⟩) (fun _ _ h => by cases h.1)
    · first | rw [b2i_n0] at c_23 | rw [b2i_0] at c_23 | skip
      refine z_iconst (v := 1) g dX10_form_26 (by decide) ?_
      refine z_goto (tgt := 31) g dX10_form_27 (by decide) ?_
      refine z_callS g _ _ cs_X10_63 (c_needArg _ M true) rfl (by rw [hR]; decide) (by rw [hR]; decide) (by rw [hR]; decide) (Nat.le_of_ble_eq_true rfl) rfl dX10_form_31 (fun _ _ h => by cases h.1) (fun r_31 M_31 h_31 => ?_)
      obtain ⟨-, rfl, rfl⟩ := h_31
      refine z_aload_n g dX10_form_34 rfl ?_
      refine z_aload g dX10_form_35 rfl ?_
      refine z_iload_n g dX10_form_37 rfl ?_
      refine z_iload_n g dX10_form_38 rfl ?_
      refine z_iload g dX10_form_39 rfl ?_
      refine z_callV g _ _ cv_X10_193 (k_form _ M hX0 hV j hj t d k) (by assumption) (by decide) rfl (by rw [hR]; decide) (by rw [hR]; decide) (by rw [hR]; decide) (Nat.le_of_ble_eq_true rfl) rfl dX10_form_41 (fun _ _ h => False.elim h) (fun r_41 M_41 h_41 => ?_)
      obtain ⟨rfl, rfl⟩ := h_41
      exact z_lret g hrt (by decide) (by decide) dX10_form_44 ⟨by simp [cForm, hF, hcl, hT_8, c_15, c_23], rfl, agr.rf, B, RX_wi0 0 hX0⟩
set_option maxHeartbeats 4000000 in
set_option maxRecDepth 100000 in
theorem k_display (E : Ev) {B : Nat → Nat → Nat} {x : Nat} {S : Ms} (M : Mm) (hX : RX B x S M) (hV : INV S) (f t : Int32) : CT E yX10_display cX10_display 4 (some .long) 10 16 500 [.ref x, .int f, .int t] M (fun r M' => cDisplay S f t = 0 ∧ r = (some (.long (vDisplay S f t))) ∧ agr TC M M' ∧ ∃ B', RX B' x (sDisplay S f t) M') (fun E9 M' => M = M' ∧ ((cDisplay S f t = 1 ∧ E9 = IOE))) := by
  refine CT.of rfl (Nat.le_of_ble_eq_true rfl) (fun X g hrt hno hE hN hR hI => ?_)
  subst hE
  have hX0 := hX
  obtain ⟨qx, qs, qf, qd, qg, qh, qp, qw, qm, qe, ql, qq, qt, qr, qc, qo, qi⟩ := hX
  have k11 : kd M x % 1000 = 11 := by rw [qx.1]
  refine z_aload_n g dX10_display_0 rfl ?_
  refine z_iload_n g dX10_display_1 rfl ?_
  refine z_callV g _ _ cv_X10_96 (k_feaAt _ M hX0 hV f) (by assumption) (by decide) rfl (by rw [hR]; decide) (by rw [hR]; decide) (by rw [hR]; decide) (Nat.le_of_ble_eq_true rfl) rfl dX10_display_2 (fun E9 M9 h9 => by obtain ⟨h9, rfl, rfl⟩ := h9; have hF := (isF_ix hV f).trans h9; exact zx_out g hrt hno (by decide) (by decide) ⟨rfl, ⟨by simp [cDisplay, hF], rfl⟩⟩) (fun r_2 M_2 h_2 => ?_)
  obtain ⟨j, hj, rfl, rfl, rfl⟩ := h_2
  have hF : isF S (nI j) = true := isF_j hV hj
  have hcl : (nI j).toNatClampNeg = j := nI_clamp (by have := hV.c2; omega)
  have k4 : kd M (B 4 j) % 1000 = 4 := qf.k4 hj
  obtain ⟨-, -, ⟨fk0, fk1⟩, ⟨g2, g3, g4, g5, g6⟩, ⟨k5a, k5b, -⟩, e5a, e5b, l170⟩ := qf.2 j hj
  have k5a1 : kd M (B 5 (2 * j)) % 1000 = 5 := by rw [k5a]; omega
  have k5b1 : kd M (B 5 (2 * j + 1)) % 1000 = 5 := by rw [k5b]; omega
  have k170 : kd M (B 170 j) % 1000 = 170 := qf.k170 hj
  refine z_astore_n g dX10_display_5 (by rw [hN]; decide) ?_
  refine z_iload_n g dX10_display_6 rfl ?_
  refine z_callS g _ _ cs_X10_144 (c_needTg _ M t) rfl (by rw [hR]; decide) (by rw [hR]; decide) (by rw [hR]; decide) (Nat.le_of_ble_eq_true rfl) rfl dX10_display_7 (fun E9 M9 h9 => by obtain ⟨h9, rfl, rfl⟩ := h9; rw [tg_e] at h9; exact zx_out g hrt hno (by decide) (by decide) ⟨rfl, ⟨by simp [cDisplay, hF, hcl, h9], rfl⟩⟩) (fun r_7 M_7 h_7 => ?_)
  obtain ⟨hT_7, rfl, rfl⟩ := h_7
  rw [tg_e] at hT_7
  refine z_aload_n g dX10_display_10 rfl ?_
  refine z_aload_n g dX10_display_11 rfl ?_
  refine z_iload_n g dX10_display_12 rfl ?_
  refine z_callV g _ _ cv_X10_277 (k_seen _ M hX0 hV j hj t) (by assumption) (by decide) rfl (by rw [hR]; decide) (by rw [hR]; decide) (by rw [hR]; decide) (Nat.le_of_ble_eq_true rfl) rfl dX10_display_13 (fun _ _ h => False.elim h) (fun r_13 M_13 h_13 => ?_)
  obtain ⟨rfl, rfl⟩ := h_13
  exact z_lret g hrt (by decide) (by decide) dX10_display_16 ⟨by simp [cDisplay, hF, hcl, hT_7], by unfold vDisplay; rw [hcl], agr.rf, B, RX_wi0 0 hX0⟩
set_option maxHeartbeats 4000000 in
set_option maxRecDepth 100000 in
theorem k_sign (E : Ev) {B : Nat → Nat → Nat} {x : Nat} {S : Ms} (M : Mm) (hX : RX B x S M) (hV : INV S) (f : Int32) : CT E yX10_sign cX10_sign 2 (some .long) 10 16 500 [.ref x, .int f] M (fun r M' => cSign S f = 0 ∧ r = (some (.long (vSign S f))) ∧ agr TC M M' ∧ ∃ B', RX B' x (sSign S f) M') (fun E9 M' => M = M' ∧ ((cSign S f = 1 ∧ E9 = IOE))) := by
  refine CT.of rfl (Nat.le_of_ble_eq_true rfl) (fun X g hrt hno hE hN hR hI => ?_)
  subst hE
  have hX0 := hX
  obtain ⟨qx, qs, qf, qd, qg, qh, qp, qw, qm, qe, ql, qq, qt, qr, qc, qo, qi⟩ := hX
  have k11 : kd M x % 1000 = 11 := by rw [qx.1]
  refine z_aload_n g dX10_sign_0 rfl ?_
  refine z_iload_n g dX10_sign_1 rfl ?_
  refine z_callV g _ _ cv_X10_96 (k_feaAt _ M hX0 hV f) (by assumption) (by decide) rfl (by rw [hR]; decide) (by rw [hR]; decide) (by rw [hR]; decide) (Nat.le_of_ble_eq_true rfl) rfl dX10_sign_2 (fun E9 M9 h9 => by obtain ⟨h9, rfl, rfl⟩ := h9; have hF := (isF_ix hV f).trans h9; exact zx_out g hrt hno (by decide) (by decide) ⟨rfl, ⟨by simp [cSign, hF], rfl⟩⟩) (fun r_2 M_2 h_2 => ?_)
  obtain ⟨j, hj, rfl, rfl, rfl⟩ := h_2
  have hF : isF S (nI j) = true := isF_j hV hj
  have hcl : (nI j).toNatClampNeg = j := nI_clamp (by have := hV.c2; omega)
  have k4 : kd M (B 4 j) % 1000 = 4 := qf.k4 hj
  obtain ⟨-, -, ⟨fk0, fk1⟩, ⟨g2, g3, g4, g5, g6⟩, ⟨k5a, k5b, -⟩, e5a, e5b, l170⟩ := qf.2 j hj
  have k5a1 : kd M (B 5 (2 * j)) % 1000 = 5 := by rw [k5a]; omega
  have k5b1 : kd M (B 5 (2 * j + 1)) % 1000 = 5 := by rw [k5b]; omega
  have k170 : kd M (B 170 j) % 1000 = 170 := qf.k170 hj
  refine z_getL g fl_X10_344 (by assumption) (by decide) rfl dX10_sign_5 ?_
  rw [qi j hj]
  exact z_lret g hrt (by decide) (by decide) dX10_sign_8 ⟨by simp [cSign, hF, hcl], by unfold vSign; rw [hcl], agr.rf, B, RX_wi0 0 hX0⟩
theorem INV.c51 {S : Ms} (h : INV S) : cn S 51 ≤ 4 := h.1.2.2.2.2.2.2.1.2
theorem rd_e {S : Ms} (hV : INV S) {q : Int32} : ixB q (nI (cn S 51)) = inB q 0 (gi S 51 - 1) := by
  rw [hV.1.2.2.2.2.2.2.1.1, ixB_in (by have := hV.c51; omega)]
set_option maxHeartbeats 4000000 in
set_option maxRecDepth 100000 in
theorem k_callCost (E : Ev) {B : Nat → Nat → Nat} {x : Nat} {S : Ms} (M : Mm) (hX : RX B x S M) (hV : INV S) (q f : Int32) : CT E yX10_cost cX10_cost 4 (some .int) 10 16 500 [.ref x, .int q, .int f] M (fun r M' => cCost S q f = 0 ∧ r = (some (.int (vCost S q f))) ∧ agr TC M M' ∧ ∃ B', RX B' x (sCost S q f) M') (fun E9 M' => M = M' ∧ ((cCost S q f = 1 ∧ E9 = IOE))) := by
  refine CT.of rfl (Nat.le_of_ble_eq_true rfl) (fun X g hrt hno hE hN hR hI => ?_)
  subst hE
  have hX0 := hX
  obtain ⟨qx, qs, qf, qd, qg, qh, qp, qw, qm, qe, ql, qq, qt, qr, qc, qo, qi⟩ := hX
  have k11 : kd M x % 1000 = 11 := by rw [qx.1]
  have r4 : fR M x 4 = some (B 404 0) := (qx.2.1 4 (by decide)).1
  have kl4 : kd M (B 404 0) = 404 := (qx.2.1 4 (by decide)).2
  have l4 : LK M (B 404 0) 9 := qr.LK kl4 hV
  have m4 := l4.1
  have n4 : ln M (B 404 0) = cn S 51 := qr.1
  have b4 := l4.2.1
  rw [n4] at b4
  refine z_iload_n g dX10_cost_0 rfl ?_
  refine z_aload_n g dX10_cost_1 rfl ?_
  refine z_getR g fl_X10_25 (by assumption) (by decide) rfl (by assumption) dX10_cost_2 ?_
  refine z_callL g _ _ cv_X10_67 rfl (c_alsize _ M (B 404 0) l4.1) (by assumption) rfl (by rw [hR]; decide) (by rw [hR]; decide) (by rw [hR]; decide) (Nat.le_of_ble_eq_true rfl) rfl dX10_cost_5 (fun _ _ h => False.elim h) (fun r_5 M_5 h_5 => ?_)
  obtain ⟨rfl, rfl⟩ := h_5
  rw [n4]
  refine z_callS g _ _ cs_X10_206 (c_needIx _ M q (nI (cn S 51))) rfl (by rw [hR]; decide) (by rw [hR]; decide) (by rw [hR]; decide) (Nat.le_of_ble_eq_true rfl) rfl dX10_cost_8 (fun E9 M9 h9 => by obtain ⟨h9, rfl, rfl⟩ := h9; rw [rd_e hV] at h9; exact zx_out g hrt hno (by decide) (by decide) ⟨rfl, ⟨by simp [cCost, h9], rfl⟩⟩) (fun r_8 M_8 h_8 => ?_)
  obtain ⟨hI_8, rfl, rfl⟩ := h_8
  have hJ_8 := hI_8
  rw [rd_e hV] at hI_8
  obtain ⟨i, hi, rfl⟩ := ixB_ex (by omega) hJ_8
  have hci : (nI i).toNatClampNeg = i := nI_clamp (by omega)
  refine z_aload_n g dX10_cost_11 rfl ?_
  refine z_iload_n g dX10_cost_12 rfl ?_
  refine z_callV g _ _ cv_X10_96 (k_feaAt _ M hX0 hV f) (by assumption) (by decide) rfl (by rw [hR]; decide) (by rw [hR]; decide) (by rw [hR]; decide) (Nat.le_of_ble_eq_true rfl) rfl dX10_cost_13 (fun E9 M9 h9 => by obtain ⟨h9, rfl, rfl⟩ := h9; have hF := (isF_ix hV f).trans h9; exact zx_out g hrt hno (by decide) (by decide) ⟨rfl, ⟨by simp [cCost, hI_8, hF], rfl⟩⟩) (fun r_13 M_13 h_13 => ?_)
  obtain ⟨j, hj, rfl, rfl, rfl⟩ := h_13
  have hF : isF S (nI j) = true := isF_j hV hj
  have hcl : (nI j).toNatClampNeg = j := nI_clamp (by have := hV.c2; omega)
  have k4 : kd M (B 4 j) % 1000 = 4 := qf.k4 hj
  obtain ⟨-, -, ⟨fk0, fk1⟩, ⟨g2, g3, g4, g5, g6⟩, ⟨k5a, k5b, -⟩, e5a, e5b, l170⟩ := qf.2 j hj
  have k5a1 : kd M (B 5 (2 * j)) % 1000 = 5 := by rw [k5a]; omega
  have k5b1 : kd M (B 5 (2 * j + 1)) % 1000 = 5 := by rw [k5b]; omega
  have k170 : kd M (B 170 j) % 1000 = 170 := qf.k170 hj
  refine z_astore_n g dX10_cost_16 (by rw [hN]; decide) ?_
  refine z_aload_n g dX10_cost_17 rfl ?_
  refine z_aload_n g dX10_cost_18 rfl ?_
  refine z_getR g fl_X10_25 (by assumption) (by decide) rfl (by assumption) dX10_cost_19 ?_
  refine z_iload_n g dX10_cost_22 rfl ?_
  refine z_callL g _ _ cv_X10_310 rfl (c_getL _ M (B 404 0) i l4 (by rw [n4]; exact hi)) (by assumption) rfl (by rw [hR]; decide) (by rw [hR]; decide) (by rw [hR]; decide) (Nat.le_of_ble_eq_true rfl) rfl dX10_cost_23 (fun _ _ h => False.elim h) (fun r_23 M_23 h_23 => ?_)
  obtain ⟨rfl, rfl⟩ := h_23
  have kel : kd M (elt M (B 404 0) i) % 1000 = 9 := (l4.2.2 i (by rw [n4]; exact hi)).2
  refine z_cast (b := 9) g cl_X10_305 rfl (by assumption) (by decide) dX10_cost_26 ?_
  refine z_aload_n g dX10_cost_29 rfl ?_
  refine z_callV g _ _ cv_X10_314 (k_cost _ M hX0 hV i j _ hi hj rfl) (by assumption) (by decide) rfl (by rw [hR]; decide) (by rw [hR]; decide) (by rw [hR]; decide) (Nat.le_of_ble_eq_true rfl) rfl dX10_cost_30 (fun _ _ h => False.elim h) (fun r_30 M_30 h_30 => ?_)
  obtain ⟨rfl, G2, rfl⟩ := h_30
  exact z_iret g hrt rfl (by decide) (by decide) dX10_cost_33 ⟨by simp [cCost, hI_8, hF, hcl], by unfold vCost; rw [hcl, hci], agr.rowI (fun k => by rw [show kd M (B 177 0) = 177 from qx.k 9 (by decide)]; unfold TC; omega), B, RX_wi0 0 (hX0.e177 hV G2)⟩
set_option maxHeartbeats 4000000 in
set_option maxRecDepth 100000 in
theorem k_copy (E : Ev) {B : Nat → Nat → Nat} {x : Nat} {S : Ms} (M : Mm) (hX : RX B x S M) (hV : INV S) (s f t : Int32) : CT E yX10_copy cX10_copy 5 (some .long) 10 16 500 [.ref x, .int s, .int f, .int t] M (fun r M' => cCopy S s f t = 0 ∧ r = (some (.long (vCopy S s f t))) ∧ agr TC M M' ∧ ∃ B', RX B' x (sCopy S s f t) M') (fun E9 M' => M = M' ∧ ((cCopy S s f t = 1 ∧ E9 = IOE))) := by
  refine CT.of rfl (Nat.le_of_ble_eq_true rfl) (fun X g hrt hno hE hN hR hI => ?_)
  subst hE
  have hX0 := hX
  obtain ⟨qx, qs, qf, qd, qg, qh, qp, qw, qm, qe, ql, qq, qt, qr, qc, qo, qi⟩ := hX
  have k11 : kd M x % 1000 = 11 := by rw [qx.1]
  have r7 : fR M x 7 = some (B 175 0) := (qx.2.1 7 (by decide)).1
  refine z_iload_n g dX10_copy_0 rfl ?_
  refine z_aload_n g dX10_copy_1 rfl ?_
  refine z_getR g fl_X10_38 (by assumption) (by decide) rfl (by assumption) dX10_copy_2 ?_
  refine z_alenIk (k := 175) g (by rw [show kd M (B 175 0) = 175 from qx.k 7 (by decide)]) (by decide) dX10_copy_5 ?_
  rw [show ln M (B 175 0) = 4 from qx.2.2.2.1, show nI 4 = (4 : Int32) from rfl]
  refine z_callS g _ _ cs_X10_206 (c_needIx _ M s 4) rfl (by rw [hR]; decide) (by rw [hR]; decide) (by rw [hR]; decide) (Nat.le_of_ble_eq_true rfl) rfl dX10_copy_6 (fun E9 M9 h9 => by obtain ⟨h9, rfl, rfl⟩ := h9; rw [tg_e] at h9; exact zx_out g hrt hno (by decide) (by decide) ⟨rfl, ⟨by simp [cCopy, h9], rfl⟩⟩) (fun r_6 M_6 h_6 => ?_)
  obtain ⟨hI_6, rfl, rfl⟩ := h_6
  have hJ_6 := hI_6
  rw [tg_e] at hI_6
  obtain ⟨i, hi, rfl⟩ := ixB_ex (n := 4) (by decide) hJ_6
  have hci : (nI i).toNatClampNeg = i := nI_clamp (by omega)
  refine z_aload_n g dX10_copy_9 rfl ?_
  refine z_iload_n g dX10_copy_10 rfl ?_
  refine z_callV g _ _ cv_X10_96 (k_feaAt _ M hX0 hV f) (by assumption) (by decide) rfl (by rw [hR]; decide) (by rw [hR]; decide) (by rw [hR]; decide) (Nat.le_of_ble_eq_true rfl) rfl dX10_copy_11 (fun E9 M9 h9 => by obtain ⟨h9, rfl, rfl⟩ := h9; have hF := (isF_ix hV f).trans h9; exact zx_out g hrt hno (by decide) (by decide) ⟨rfl, ⟨by simp [cCopy, hI_6, hF], rfl⟩⟩) (fun r_11 M_11 h_11 => ?_)
  obtain ⟨j, hj, rfl, rfl, rfl⟩ := h_11
  have hF : isF S (nI j) = true := isF_j hV hj
  have hcl : (nI j).toNatClampNeg = j := nI_clamp (by have := hV.c2; omega)
  have k4 : kd M (B 4 j) % 1000 = 4 := qf.k4 hj
  obtain ⟨-, -, ⟨fk0, fk1⟩, ⟨g2, g3, g4, g5, g6⟩, ⟨k5a, k5b, -⟩, e5a, e5b, l170⟩ := qf.2 j hj
  have k5a1 : kd M (B 5 (2 * j)) % 1000 = 5 := by rw [k5a]; omega
  have k5b1 : kd M (B 5 (2 * j + 1)) % 1000 = 5 := by rw [k5b]; omega
  have k170 : kd M (B 170 j) % 1000 = 170 := qf.k170 hj
  refine z_astore g dX10_copy_14 (by rw [hN]; decide) ?_
  refine z_iload_n g dX10_copy_16 rfl ?_
  refine z_callS g _ _ cs_X10_144 (c_needTg _ M t) rfl (by rw [hR]; decide) (by rw [hR]; decide) (by rw [hR]; decide) (Nat.le_of_ble_eq_true rfl) rfl dX10_copy_17 (fun E9 M9 h9 => by obtain ⟨h9, rfl, rfl⟩ := h9; rw [tg_e] at h9; exact zx_out g hrt hno (by decide) (by decide) ⟨rfl, ⟨by simp [cCopy, hI_6, hF, hcl, h9], rfl⟩⟩) (fun r_17 M_17 h_17 => ?_)
  obtain ⟨hT_17, rfl, rfl⟩ := h_17
  rw [tg_e] at hT_17
  refine z_aload_n g dX10_copy_20 rfl ?_
  refine z_aload g dX10_copy_21 rfl ?_
  refine z_iload_n g dX10_copy_23 rfl ?_
  refine z_aload_n g dX10_copy_24 rfl ?_
  refine z_getI g fl_X10_76 (by assumption) (by decide) rfl dX10_copy_25 ?_
  rw [show fI M x 10 = gi S 1 from qs.1]
  refine z_aload_n g dX10_copy_28 rfl ?_
  refine z_getR g fl_X10_38 (by assumption) (by decide) rfl (by assumption) dX10_copy_29 ?_
  refine z_iload_n g dX10_copy_32 rfl ?_
  refine z_ialdk (k := 175) g (by rw [show kd M (B 175 0) = 175 from qx.k 7 (by decide)]) (by decide) (vp_in_nI (by rw [show ln M (B 175 0) = 4 from qx.2.2.2.1]; exact hi) (by rw [show ln M (B 175 0) = 4 from qx.2.2.2.1]; decide)) dX10_copy_33 ?_
  rw [hci, qc i hi]
  refine z_callV g _ _ cv_X10_193 (k_form _ M hX0 hV j hj t (gi S 1) (gA S 55 i)) (by assumption) (by decide) rfl (by rw [hR]; decide) (by rw [hR]; decide) (by rw [hR]; decide) (Nat.le_of_ble_eq_true rfl) rfl dX10_copy_34 (fun _ _ h => False.elim h) (fun r_34 M_34 h_34 => ?_)
  obtain ⟨rfl, rfl⟩ := h_34
  exact z_lret g hrt (by decide) (by decide) dX10_copy_37 ⟨by simp [cCopy, hI_6, hF, hcl, hT_17], by unfold vCopy; rw [hci], agr.rf, B, RX_wi0 0 hX0⟩
theorem inB_04 (w : Int32) : inB w 0 4 = (!decide (w < 0) && !decide (4 < w)) := rfl
theorem en_in {B : Nat → Nat → Nat} {S : Ms} {M : Mm} (h : qD B S M) {j : Nat} (hj : j < cn S 2) {d k : Int32} (he : enA S j d k = true) : fI M (B 4 j) 10 = gA S 15 j := by
  rcases h j hj with ⟨-, a2⟩ | ⟨-, -, -, -, a5⟩
  · unfold enA at he
    rw [a2, decide_eq_true rfl] at he; cases he
  · exact a5
theorem of_b {b : Bool} (h : b = true) : b = true := h
theorem of_nb {b : Bool} (h : b = false) : ¬ b = true := by rw [h]; decide
set_option maxHeartbeats 4000000 in
set_option maxRecDepth 100000 in
theorem k_of (E : Ev) {B : Nat → Nat → Nat} {x : Nat} {S : Ms} (M : Mm) (hX : RX B x S M) (hV : INV S) (f w d k : Int32) : CT E yX10_of cX10_of 6 (some .int) 10 16 500 [.ref x, .int f, .int w, .int d, .int k] M (fun r M' => cOf S f w d k = 0 ∧ r = (some (.int (vOf S f w d k))) ∧ agr TC M M' ∧ ∃ B', RX B' x (sOf S f w d k) M') (fun E9 M' => M = M' ∧ ((cOf S f w d k = 1 ∧ E9 = IOE) ∨ (cOf S f w d k = 2 ∧ E9 = IAE))) := by
  refine CT.of rfl (Nat.le_of_ble_eq_true rfl) (fun X g hrt hno hE hN hR hI => ?_)
  subst hE
  have hX0 := hX
  obtain ⟨qx, qs, qf, qd, qg, qh, qp, qw, qm, qe, ql, qq, qt, qr, qc, qo, qi⟩ := hX
  have k11 : kd M x % 1000 = 11 := by rw [qx.1]
  refine z_aload_n g dX10_of_0 rfl ?_
  refine z_iload_n g dX10_of_1 rfl ?_
  refine z_callV g _ _ cv_X10_96 (k_feaAt _ M hX0 hV f) (by assumption) (by decide) rfl (by rw [hR]; decide) (by rw [hR]; decide) (by rw [hR]; decide) (Nat.le_of_ble_eq_true rfl) rfl dX10_of_2 (fun E9 M9 h9 => by obtain ⟨h9, rfl, rfl⟩ := h9; have hF := (isF_ix hV f).trans h9; exact zx_out g hrt hno (by decide) (by decide) ⟨rfl, Or.inl ⟨by simp [cOf, inB_04, hF], rfl⟩⟩) (fun r_2 M_2 h_2 => ?_)
  obtain ⟨j, hj, rfl, rfl, rfl⟩ := h_2
  have hF : isF S (nI j) = true := isF_j hV hj
  have hcl : (nI j).toNatClampNeg = j := nI_clamp (by have := hV.c2; omega)
  have k4 : kd M (B 4 j) % 1000 = 4 := qf.k4 hj
  obtain ⟨-, -, ⟨fk0, fk1⟩, ⟨g2, g3, g4, g5, g6⟩, ⟨k5a, k5b, -⟩, e5a, e5b, l170⟩ := qf.2 j hj
  have k5a1 : kd M (B 5 (2 * j)) % 1000 = 5 := by rw [k5a]; omega
  have k5b1 : kd M (B 5 (2 * j + 1)) % 1000 = 5 := by rw [k5b]; omega
  have k170 : kd M (B 170 j) % 1000 = 170 := qf.k170 hj
  refine z_astore g dX10_of_5 (by rw [hN]; decide) ?_
  refine z_iload_n g dX10_of_7 rfl ?_
  refine z_if_lt (tgt := 35) g dX10_of_8 (by decide) (fun c_8 => ?_) (fun c_8 => ?_)
  · refine z_iconst (v := 0) g dX10_of_35 (by decide) ?_
    exact z_callS g _ _ cs_X10_63 (c_needArg _ M false) rfl (by rw [hR]; decide) (by rw [hR]; decide) (by rw [hR]; decide) (Nat.le_of_ble_eq_true rfl) rfl dX10_of_36 (fun E9 M9 h9 => by obtain ⟨-, rfl, rfl⟩ := h9; exact zx_out g hrt hno (by decide) (by decide) ⟨rfl, Or.inr (⟨by simp [cOf, inB_04, hF, hcl, eq_true c_8], rfl⟩)⟩) (fun _ _ h => by cases h.1)
  · refine z_iload_n g dX10_of_11 rfl ?_
    refine z_iconst (v := 4) g dX10_of_12 (by decide) ?_
    refine z_icmp_gt (tgt := 35) g dX10_of_13 (by decide) (fun c_13 => ?_) (fun c_13 => ?_)
    · refine z_iconst (v := 0) g dX10_of_35 (by decide) ?_
      exact z_callS g _ _ cs_X10_63 (c_needArg _ M false) rfl (by rw [hR]; decide) (by rw [hR]; decide) (by rw [hR]; decide) (Nat.le_of_ble_eq_true rfl) rfl dX10_of_36 (fun E9 M9 h9 => by obtain ⟨-, rfl, rfl⟩ := h9; exact zx_out g hrt hno (by decide) (by decide) ⟨rfl, Or.inr (⟨by simp [cOf, inB_04, hF, hcl, eq_false c_8, eq_true c_13], rfl⟩)⟩) (fun _ _ h => by cases h.1)
    · refine z_iload_n g dX10_of_16 rfl ?_
      refine z_callS g _ _ cs_X10_100 (c_isDay _ M d) rfl (by rw [hR]; decide) (by rw [hR]; decide) (by rw [hR]; decide) (Nat.le_of_ble_eq_true rfl) rfl dX10_of_17 (fun _ _ h => False.elim h) (fun r_17 M_17 h_17 => ?_)
      obtain ⟨rfl, rfl⟩ := h_17
      rw [show dayB d = inB d 0 9999 from rfl]
      refine z_if_eq (tgt := 35) g dX10_of_20 (by decide) (fun c_20 => ?_) (fun c_20 => ?_)
      · first | rw [b2i_n0] at c_20 | rw [b2i_0] at c_20 | skip
        refine z_iconst (v := 0) g dX10_of_35 (by decide) ?_
        exact z_callS g _ _ cs_X10_63 (c_needArg _ M false) rfl (by rw [hR]; decide) (by rw [hR]; decide) (by rw [hR]; decide) (Nat.le_of_ble_eq_true rfl) rfl dX10_of_36 (fun E9 M9 h9 => by obtain ⟨-, rfl, rfl⟩ := h9; exact zx_out g hrt hno (by decide) (by decide) ⟨rfl, Or.inr (⟨by simp [cOf, inB_04, hF, hcl, eq_false c_8, eq_false c_13, c_20], rfl⟩)⟩) (fun _ _ h => by cases h.1)
      · first | rw [b2i_n0] at c_20 | rw [b2i_0] at c_20 | skip
        refine z_iload g dX10_of_23 rfl ?_
        refine z_callS g _ _ cs_X10_100 (c_isDay _ M k) rfl (by rw [hR]; decide) (by rw [hR]; decide) (by rw [hR]; decide) (Nat.le_of_ble_eq_true rfl) rfl dX10_of_25 (fun _ _ h => False.elim h) (fun r_25 M_25 h_25 => ?_)
        obtain ⟨rfl, rfl⟩ := h_25
        rw [show dayB k = inB k 0 9999 from rfl]
        refine z_if_eq (tgt := 35) g dX10_of_28 (by decide) (fun c_28 => ?_) (fun c_28 => ?_)
        · first | rw [b2i_n0] at c_28 | rw [b2i_0] at c_28 | skip
          refine z_iconst (v := 0) g dX10_of_35 (by decide) ?_
          exact z_callS g _ _ cs_X10_63 (c_needArg _ M false) rfl (by rw [hR]; decide) (by rw [hR]; decide) (by rw [hR]; decide) (Nat.le_of_ble_eq_true rfl) rfl dX10_of_36 (fun E9 M9 h9 => by obtain ⟨-, rfl, rfl⟩ := h9; exact zx_out g hrt hno (by decide) (by decide) ⟨rfl, Or.inr (⟨by simp [cOf, inB_04, hF, hcl, eq_false c_8, eq_false c_13, c_20, c_28], rfl⟩)⟩) (fun _ _ h => by cases h.1)
        · first | rw [b2i_n0] at c_28 | rw [b2i_0] at c_28 | skip
          refine z_iconst (v := 1) g dX10_of_31 (by decide) ?_
          refine z_goto (tgt := 36) g dX10_of_32 (by decide) ?_
          refine z_callS g _ _ cs_X10_63 (c_needArg _ M true) rfl (by rw [hR]; decide) (by rw [hR]; decide) (by rw [hR]; decide) (Nat.le_of_ble_eq_true rfl) rfl dX10_of_36 (fun _ _ h => by cases h.1) (fun r_36 M_36 h_36 => ?_)
          obtain ⟨-, rfl, rfl⟩ := h_36
          refine z_iload_n g dX10_of_39 rfl ?_
          obtain ⟨kk, hk4, rfl⟩ := in_04 c_8 c_13
          have hw : inB (nI kk) 0 4 = true := by unfold inB; rw [decide_eq_false c_8, decide_eq_false c_13]; rfl
          rcases (show kk = 0 ∨ kk = 1 ∨ kk = 2 ∨ kk = 3 ∨ kk = 4 by omega) with rfl | rfl | rfl | rfl | rfl
          · refine z_tabIn (off := 32) (tgt := 72) g dX10_of_40 (by decide) (by decide) (by decide) (by decide) ?_
            refine z_aload g dX10_of_72 rfl ?_
            refine z_iload_n g dX10_of_74 rfl ?_
            refine z_iload g dX10_of_75 rfl ?_
            refine z_callV g _ _ cv_X10_128 (k_isTh _ M hX0 j hj d k) (by assumption) (by decide) rfl (by rw [hR]; decide) (by rw [hR]; decide) (by rw [hR]; decide) (Nat.le_of_ble_eq_true rfl) rfl dX10_of_77 (fun _ _ h => False.elim h) (fun r_77 M_77 h_77 => ?_)
            obtain ⟨rfl, rfl⟩ := h_77
            refine z_if_eq (tgt := 87) g dX10_of_80 (by decide) (fun c_80 => ?_) (fun c_80 => ?_)
            · first | rw [b2i_n0] at c_80 | rw [b2i_0] at c_80 | skip
              refine z_iconst (v := 0) g dX10_of_87 (by decide) ?_
              exact z_iret g hrt rfl (by decide) (by decide) dX10_of_88 ⟨by rw [show cOf S (nI j) (nI 0) d k = if (!isF S (nI j)) = true then 1 else if (inB (nI 0) 0 4 && (inB d 0 9999 && inB k 0 9999)) = true then 0 else 2 from rfl, hF, hw, c_20, c_28]; rfl, by rw [vOf_0, hcl]; first | (rw [if_pos (of_b c_80)]; done) | (rw [if_neg (of_nb c_80)]; done), agr.rf, B, RX_wi0 0 hX0⟩
            · first | rw [b2i_n0] at c_80 | rw [b2i_0] at c_80 | skip
              refine z_iconst (v := 1) g dX10_of_83 (by decide) ?_
              refine z_goto (tgt := 88) g dX10_of_84 (by decide) ?_
              exact z_iret g hrt rfl (by decide) (by decide) dX10_of_88 ⟨by rw [show cOf S (nI j) (nI 0) d k = if (!isF S (nI j)) = true then 1 else if (inB (nI 0) 0 4 && (inB d 0 9999 && inB k 0 9999)) = true then 0 else 2 from rfl, hF, hw, c_20, c_28]; rfl, by rw [vOf_0, hcl]; first | (rw [if_pos (of_b c_80)]; done) | (rw [if_neg (of_nb c_80)]; done), agr.rf, B, RX_wi0 0 hX0⟩
          · refine z_tabIn (off := 49) (tgt := 89) g dX10_of_40 (by decide) (by decide) (by decide) (by decide) ?_
            refine z_aload g dX10_of_89 rfl ?_
            refine z_getR g fl_X10_82 (by assumption) (by decide) rfl (by assumption) dX10_of_91 ?_
            refine z_iload_n g dX10_of_94 rfl ?_
            refine z_iload g dX10_of_95 rfl ?_
            refine z_callV g _ _ cv_X10_131 (k_plV _ M hX0 hV j hj d k) (by assumption) (by decide) rfl (by rw [hR]; decide) (by rw [hR]; decide) (by rw [hR]; decide) (Nat.le_of_ble_eq_true rfl) rfl dX10_of_97 (fun _ _ h => False.elim h) (fun r_97 M_97 h_97 => ?_)
            obtain ⟨rfl, rfl⟩ := h_97
            refine z_callS g _ _ cs_X10_134 (c_fst _ M (plV S j d k)) rfl (by rw [hR]; decide) (by rw [hR]; decide) (by rw [hR]; decide) (Nat.le_of_ble_eq_true rfl) rfl dX10_of_100 (fun _ _ h => False.elim h) (fun r_100 M_100 h_100 => ?_)
            obtain ⟨rfl, rfl⟩ := h_100
            exact z_iret g hrt rfl (by decide) (by decide) dX10_of_103 ⟨by rw [show cOf S (nI j) (nI 1) d k = if (!isF S (nI j)) = true then 1 else if (inB (nI 1) 0 4 && (inB d 0 9999 && inB k 0 9999)) = true then 0 else 2 from rfl, hF, hw, c_20, c_28]; rfl, by rw [vOf_1, hcl, pl_fst hV hj]; cases plA S j d k <;> rfl, agr.rf, B, RX_wi0 0 hX0⟩
          · refine z_tabIn (off := 64) (tgt := 104) g dX10_of_40 (by decide) (by decide) (by decide) (by decide) ?_
            refine z_aload g dX10_of_104 rfl ?_
            refine z_getR g fl_X10_82 (by assumption) (by decide) rfl (by assumption) dX10_of_106 ?_
            refine z_iload_n g dX10_of_109 rfl ?_
            refine z_iload g dX10_of_110 rfl ?_
            refine z_callV g _ _ cv_X10_131 (k_plV _ M hX0 hV j hj d k) (by assumption) (by decide) rfl (by rw [hR]; decide) (by rw [hR]; decide) (by rw [hR]; decide) (Nat.le_of_ble_eq_true rfl) rfl dX10_of_112 (fun _ _ h => False.elim h) (fun r_112 M_112 h_112 => ?_)
            obtain ⟨rfl, rfl⟩ := h_112
            refine z_callS g _ _ cs_X10_138 (c_snd _ M (plV S j d k)) rfl (by rw [hR]; decide) (by rw [hR]; decide) (by rw [hR]; decide) (Nat.le_of_ble_eq_true rfl) rfl dX10_of_115 (fun _ _ h => False.elim h) (fun r_115 M_115 h_115 => ?_)
            obtain ⟨rfl, rfl⟩ := h_115
            exact z_iret g hrt rfl (by decide) (by decide) dX10_of_118 ⟨by rw [show cOf S (nI j) (nI 2) d k = if (!isF S (nI j)) = true then 1 else if (inB (nI 2) 0 4 && (inB d 0 9999 && inB k 0 9999)) = true then 0 else 2 from rfl, hF, hw, c_20, c_28]; rfl, by rw [vOf_2, hcl, pl_snd hV hj]; cases plA S j d k <;> rfl, agr.rf, B, RX_wi0 0 hX0⟩
          · refine z_tabIn (off := 79) (tgt := 119) g dX10_of_40 (by decide) (by decide) (by decide) (by decide) ?_
            refine z_aload g dX10_of_119 rfl ?_
            refine z_getR g fl_X10_112 (by assumption) (by decide) rfl (by assumption) dX10_of_121 ?_
            refine z_iload_n g dX10_of_124 rfl ?_
            refine z_iload g dX10_of_125 rfl ?_
            refine z_callV g _ _ cv_X10_131 (k_whA _ M hX0 hV j hj d k) (by assumption) (by decide) rfl (by rw [hR]; decide) (by rw [hR]; decide) (by rw [hR]; decide) (Nat.le_of_ble_eq_true rfl) rfl dX10_of_127 (fun _ _ h => False.elim h) (fun r_127 M_127 h_127 => ?_)
            obtain ⟨rfl, rfl⟩ := h_127
            exact z_iret g hrt rfl (by decide) (by decide) dX10_of_130 ⟨by rw [show cOf S (nI j) (nI 3) d k = if (!isF S (nI j)) = true then 1 else if (inB (nI 3) 0 4 && (inB d 0 9999 && inB k 0 9999)) = true then 0 else 2 from rfl, hF, hw, c_20, c_28]; rfl, by rw [vOf_3, hcl], agr.rf, B, RX_wi0 0 hX0⟩
          · refine z_tabOut (tgt := 131) g dX10_of_40 (Or.inr (by decide)) (by decide) ?_
            refine z_aload g dX10_of_131 rfl ?_
            refine z_iload_n g dX10_of_133 rfl ?_
            refine z_iload g dX10_of_134 rfl ?_
            refine z_callV g _ _ cv_X10_141 (k_hEnd _ M hX0 j hj d k) (by assumption) (by decide) rfl (by rw [hR]; decide) (by rw [hR]; decide) (by rw [hR]; decide) (Nat.le_of_ble_eq_true rfl) rfl dX10_of_136 (fun _ _ h => False.elim h) (fun r_136 M_136 h_136 => ?_)
            obtain ⟨rfl, rfl⟩ := h_136
            refine z_if_eq (tgt := 150) g dX10_of_139 (by decide) (fun c_139 => ?_) (fun c_139 => ?_)
            · first | rw [b2i_n0] at c_139 | rw [b2i_0] at c_139 | skip
              refine z_iconst (v := (-1)) g dX10_of_150 (by decide) ?_
              exact z_iret g hrt rfl (by decide) (by decide) dX10_of_151 ⟨by rw [show cOf S (nI j) (nI 4) d k = if (!isF S (nI j)) = true then 1 else if (inB (nI 4) 0 4 && (inB d 0 9999 && inB k 0 9999)) = true then 0 else 2 from rfl, hF, hw, c_20, c_28]; rfl, by rw [vOf_4, hcl]; first | (rw [if_pos (of_b c_139)]; done) | (rw [if_neg (of_nb c_139)]; done), agr.rf, B, RX_wi0 0 hX0⟩
            · first | rw [b2i_n0] at c_139 | rw [b2i_0] at c_139 | skip
              refine z_aload g dX10_of_142 rfl ?_
              refine z_getI g fl_X10_125 (by assumption) (by decide) rfl dX10_of_144 ?_
              rw [en_in qd hj c_139]
              refine z_goto (tgt := 151) g dX10_of_147 (by decide) ?_
              exact z_iret g hrt rfl (by decide) (by decide) dX10_of_151 ⟨by rw [show cOf S (nI j) (nI 4) d k = if (!isF S (nI j)) = true then 1 else if (inB (nI 4) 0 4 && (inB d 0 9999 && inB k 0 9999)) = true then 0 else 2 from rfl, hF, hw, c_20, c_28]; rfl, by rw [vOf_4, hcl]; first | (rw [if_pos (of_b c_139)]; done) | (rw [if_neg (of_nb c_139)]; done), agr.rf, B, RX_wi0 0 hX0⟩
