set_option maxHeartbeats 4000000 in
set_option maxRecDepth 100000 in
theorem k_end (E : Ev) {B : Nat → Nat → Nat} {x : Nat} {S : Ms} (M : Mm) (hX : RX B x S M) (hV : INV S) (f i d : Int32) : CT E yX10_end cX10_end 5 none 10 16 500 [.ref x, .int f, .int i, .int d] M (fun r M' => cEnd S f i d = 0 ∧ r = none ∧ agr TC M M' ∧ ∃ B', RX B' x (sEnd S f i d) M') (fun E9 M' => M = M' ∧ ((cEnd S f i d = 1 ∧ E9 = IOE) ∨ (cEnd S f i d = 2 ∧ E9 = IAE) ∨ (cEnd S f i d = 3 ∧ E9 = ISE))) := by
  refine CT.of rfl (Nat.le_of_ble_eq_true rfl) (fun X g hrt hno hE hN hR hI => ?_)
  subst hE
  have hX0 := hX
  obtain ⟨qx, qs, qf, qd, qg, qh, qp, qw, qm, qe, ql, qq, qt, qr, qc, qo, qi⟩ := hX
  have k11 : kd M x % 1000 = 11 := by rw [qx.1]
  have r0 : fR M x 0 = some (B 400 0) := (qx.2.1 0 (by decide)).1
  have kl0 : kd M (B 400 0) = 400 := (qx.2.1 0 (by decide)).2
  have l0 : LK M (B 400 0) 4 := qf.LK kl0 hV.c2
  have m0 := l0.1
  have n0 : ln M (B 400 0) = cn S 2 := qf.1
  have b0 := l0.2.1
  rw [n0] at b0
  refine z_aload_n g dX10_end_0 rfl ?_
  refine z_iload_n g dX10_end_1 rfl ?_
  refine z_callV g _ _ cv_X10_96 (k_feaAt _ M hX0 hV f) (by assumption) (by decide) rfl (by rw [hR]; decide) (by rw [hR]; decide) (by rw [hR]; decide) (Nat.le_of_ble_eq_true rfl) rfl dX10_end_2 (fun E9 M9 h9 => by obtain ⟨h9, rfl, rfl⟩ := h9; have hF := (isF_ix hV f).trans h9; exact zx_out g hrt hno (by decide) (by decide) ⟨rfl, Or.inl ⟨by simp [cEnd_c, hF], rfl⟩⟩) (fun r_2 M_2 h_2 => ?_)
  obtain ⟨j, hj, rfl, rfl, rfl⟩ := h_2
  have hF : isF S (nI j) = true := isF_j hV hj
  have hcl : (nI j).toNatClampNeg = j := nI_clamp (by have := hV.c2; omega)
  have k4 : kd M (B 4 j) % 1000 = 4 := qf.k4 hj
  obtain ⟨-, -, ⟨fk0, fk1⟩, ⟨g2, g3, g4, g5, g6⟩, ⟨k5a, k5b, -⟩, e5a, e5b, l170⟩ := qf.2 j hj
  have k5a1 : kd M (B 5 (2 * j)) % 1000 = 5 := by rw [k5a]; omega
  have k5b1 : kd M (B 5 (2 * j + 1)) % 1000 = 5 := by rw [k5b]; omega
  have k170 : kd M (B 170 j) % 1000 = 170 := qf.k170 hj
  refine z_astore g dX10_end_5 (by rw [hN]; decide) ?_
  refine z_aload_n g dX10_end_7 rfl ?_
  refine z_iload_n g dX10_end_8 rfl ?_
  refine z_callV g _ _ cv_X10_108 (k_needFN _ M hX0 hV i) (by assumption) (by decide) rfl (by rw [hR]; decide) (by rw [hR]; decide) (by rw [hR]; decide) (Nat.le_of_ble_eq_true rfl) rfl dX10_end_9 (fun E9 M9 h9 => by obtain ⟨h9, rfl, rfl⟩ := h9; rw [← isF_ix hV] at h9; exact zx_out g hrt hno (by decide) (by decide) ⟨rfl, Or.inl ⟨by simp [cEnd_c, hF, hcl, h9], rfl⟩⟩) (fun r_9 M_9 h_9 => ?_)
  obtain ⟨hNF, rfl, rfl⟩ := h_9
  rw [← isF_ix hV] at hNF
  refine z_iload_n g dX10_end_12 rfl ?_
  refine z_iload_n g dX10_end_13 rfl ?_
  refine z_icmp_eq (tgt := 28) g dX10_end_14 (by decide) (fun c_14 => ?_) (fun c_14 => ?_)
  · refine z_iconst (v := 0) g dX10_end_28 (by decide) ?_
    exact z_callS g _ _ cs_X10_63 (c_needArg _ M false) rfl (by rw [hR]; decide) (by rw [hR]; decide) (by rw [hR]; decide) (Nat.le_of_ble_eq_true rfl) rfl dX10_end_29 (fun E9 M9 h9 => by obtain ⟨-, rfl, rfl⟩ := h9; exact zx_out g hrt hno (by decide) (by decide) ⟨rfl, Or.inr (Or.inl ⟨by simp [cEnd_c, hF, hcl, hNF, eq_true c_14], rfl⟩)⟩) (fun _ _ h => by cases h.1)
  · refine z_iload_n g dX10_end_17 rfl ?_
    refine z_callS g _ _ cs_X10_100 (c_isDay _ M d) rfl (by rw [hR]; decide) (by rw [hR]; decide) (by rw [hR]; decide) (Nat.le_of_ble_eq_true rfl) rfl dX10_end_18 (fun _ _ h => False.elim h) (fun r_18 M_18 h_18 => ?_)
    obtain ⟨rfl, rfl⟩ := h_18
    rw [show dayB d = inB d 0 9999 from rfl]
    refine z_if_eq (tgt := 28) g dX10_end_21 (by decide) (fun c_21 => ?_) (fun c_21 => ?_)
    · first | rw [b2i_n0] at c_21 | rw [b2i_0] at c_21 | skip
      refine z_iconst (v := 0) g dX10_end_28 (by decide) ?_
      exact z_callS g _ _ cs_X10_63 (c_needArg _ M false) rfl (by rw [hR]; decide) (by rw [hR]; decide) (by rw [hR]; decide) (Nat.le_of_ble_eq_true rfl) rfl dX10_end_29 (fun E9 M9 h9 => by obtain ⟨-, rfl, rfl⟩ := h9; exact zx_out g hrt hno (by decide) (by decide) ⟨rfl, Or.inr (Or.inl ⟨by simp [cEnd_c, hF, hcl, hNF, eq_false c_14, c_21], rfl⟩)⟩) (fun _ _ h => by cases h.1)
    · first | rw [b2i_n0] at c_21 | rw [b2i_0] at c_21 | skip
      refine z_iconst (v := 1) g dX10_end_24 (by decide) ?_
      refine z_goto (tgt := 29) g dX10_end_25 (by decide) ?_
      refine z_callS g _ _ cs_X10_63 (c_needArg _ M true) rfl (by rw [hR]; decide) (by rw [hR]; decide) (by rw [hR]; decide) (Nat.le_of_ble_eq_true rfl) rfl dX10_end_29 (fun _ _ h => by cases h.1) (fun r_29 M_29 h_29 => ?_)
      obtain ⟨-, rfl, rfl⟩ := h_29
      obtain ⟨dn, hdn, rfl⟩ := day_ex c_21
      have hx4 := qf.nx4 qx hj
      refine z_aload g dX10_end_32 rfl ?_
      refine z_getI g fl_X10_115 (by assumption) (by decide) rfl dX10_end_34 ?_
      rw [end7 qd hj]
      refine z_if_ne (tgt := 44) g dX10_end_37 (by decide) (fun c_37 => ?_) (fun c_37 => ?_)
      · have h14 : ¬ gA S 14 j = -1 := by have h9 := b2i_n0.mp c_37; simpa using h9
        refine z_iconst (v := 0) g dX10_end_44 (by decide) ?_
        exact z_callS g _ _ cs_X10_71 (c_needSt _ M false) rfl (by rw [hR]; decide) (by rw [hR]; decide) (by rw [hR]; decide) (Nat.le_of_ble_eq_true rfl) rfl dX10_end_45 (fun E9 M9 h9 => by obtain ⟨-, rfl, rfl⟩ := h9; exact zx_out g hrt hno (by decide) (by decide) ⟨rfl, Or.inr (Or.inr (⟨by simp [cEnd_c, hF, hcl, hNF, h14, eq_false c_14, c_21], rfl⟩))⟩) (fun _ _ h => by cases h.1)
      · have h14 : gA S 14 j = -1 := by have h9 := b2i_0.mp c_37; simpa using h9
        refine z_iconst (v := 1) g dX10_end_40 (by decide) ?_
        refine z_goto (tgt := 45) g dX10_end_41 (by decide) ?_
        refine z_callS g _ _ cs_X10_71 (c_needSt _ M true) rfl (by rw [hR]; decide) (by rw [hR]; decide) (by rw [hR]; decide) (Nat.le_of_ble_eq_true rfl) rfl dX10_end_45 (fun _ _ h => by cases h.1) (fun r_45 M_45 h_45 => ?_)
        obtain ⟨-, rfl, rfl⟩ := h_45
        refine z_aload g dX10_end_48 rfl ?_
        refine z_iconst (v := 1) g dX10_end_50 (by decide) ?_
        refine z_putZ g fp_X10_115 k4 (by decide) rfl (fun h => nomatch h) (Or.inr rfl) dX10_end_51 ?_
        refine z_aload g dX10_end_54 rfl ?_
        refine z_aload_n g dX10_end_56 rfl ?_
        refine z_getI g fl_X10_76 k11 (by decide) rfl dX10_end_57 ?_
        rw [show fI (sI M (B 4 j) 7 1) x 10 = gi S 1 from (fI_o hx4).trans qs.1]
        refine z_putI g fp_X10_119 k4 (by decide) rfl (fun h => nomatch h) dX10_end_60 ?_
        refine z_aload g dX10_end_63 rfl ?_
        refine z_iload_n g dX10_end_65 rfl ?_
        refine z_putI g fp_X10_122 k4 (by decide) rfl (fun h => nomatch h) dX10_end_66 ?_
        refine z_aload g dX10_end_69 rfl ?_
        refine z_iload_n g dX10_end_71 rfl ?_
        refine z_putI g fp_X10_125 k4 (by decide) rfl (fun h => nomatch h) dX10_end_72 ?_
        exact z_vret g hrt (by decide) (by decide) dX10_end_75 ⟨by simp [cEnd_c, hF, hcl, hNF, h14, eq_false c_14, c_21], rfl, (RX_end hX0 hV (i := i) hj hdn).2, B, by unfold sEnd; rw [hcl]; exact (RX_end hX0 hV (i := i) hj hdn).1⟩
set_option maxHeartbeats 4000000 in
set_option maxRecDepth 100000 in
theorem k_move (E : Ev) {B : Nat → Nat → Nat} {x : Nat} {S : Ms} (M : Mm) (hX : RX B x S M) (hV : INV S) (f p q d : Int32) : CT E yX10_move cX10_move 6 none 10 16 500 [.ref x, .int f, .int p, .int q, .int d] M (fun r M' => cMove S f p q d = 0 ∧ r = none ∧ agr TC M M' ∧ ∃ B', RX B' x (sMove S f p q d) M') (fun E9 M' => M = M' ∧ ((cMove S f p q d = 1 ∧ E9 = IOE) ∨ (cMove S f p q d = 2 ∧ E9 = IAE) ∨ (cMove S f p q d = 3 ∧ E9 = ISE))) := by
  refine CT.of rfl (Nat.le_of_ble_eq_true rfl) (fun X g hrt hno hE hN hR hI => ?_)
  subst hE
  have hX0 := hX
  obtain ⟨qx, qs, qf, qd, qg, qh, qp, qw, qm, qe, ql, qq, qt, qr, qc, qo, qi⟩ := hX
  have k11 : kd M x % 1000 = 11 := by rw [qx.1]
  refine z_aload_n g dX10_move_0 rfl ?_
  refine z_iload_n g dX10_move_1 rfl ?_
  refine z_callV g _ _ cv_X10_96 (k_feaAt _ M hX0 hV f) (by assumption) (by decide) rfl (by rw [hR]; decide) (by rw [hR]; decide) (by rw [hR]; decide) (Nat.le_of_ble_eq_true rfl) rfl dX10_move_2 (fun E9 M9 h9 => by obtain ⟨h9, rfl, rfl⟩ := h9; have hF := (isF_ix hV f).trans h9; exact zx_out g hrt hno (by decide) (by decide) ⟨rfl, Or.inl ⟨by simp [cMove, hF], rfl⟩⟩) (fun r_2 M_2 h_2 => ?_)
  obtain ⟨j, hj, rfl, rfl, rfl⟩ := h_2
  have hF : isF S (nI j) = true := isF_j hV hj
  have hcl : (nI j).toNatClampNeg = j := nI_clamp (by have := hV.c2; omega)
  have k4 : kd M (B 4 j) % 1000 = 4 := qf.k4 hj
  obtain ⟨-, -, ⟨fk0, fk1⟩, ⟨g2, g3, g4, g5, g6⟩, ⟨k5a, k5b, -⟩, e5a, e5b, l170⟩ := qf.2 j hj
  have k5a1 : kd M (B 5 (2 * j)) % 1000 = 5 := by rw [k5a]; omega
  have k5b1 : kd M (B 5 (2 * j + 1)) % 1000 = 5 := by rw [k5b]; omega
  have k170 : kd M (B 170 j) % 1000 = 170 := qf.k170 hj
  refine z_astore g dX10_move_5 (by rw [hN]; decide) ?_
  refine z_iload_n g dX10_move_7 rfl ?_
  refine z_iload_n g dX10_move_8 rfl ?_
  refine z_callS g _ _ cs_X10_59 (c_isPl _ M p q) rfl (by rw [hR]; decide) (by rw [hR]; decide) (by rw [hR]; decide) (Nat.le_of_ble_eq_true rfl) rfl dX10_move_9 (fun _ _ h => False.elim h) (fun r_9 M_9 h_9 => ?_)
  obtain ⟨rfl, rfl⟩ := h_9
  rw [plB_e]
  refine z_if_eq (tgt := 27) g dX10_move_12 (by decide) (fun c_12 => ?_) (fun c_12 => ?_)
  · first | rw [b2i_n0] at c_12 | rw [b2i_0] at c_12 | skip
    refine z_iconst (v := 0) g dX10_move_27 (by decide) ?_
    exact z_callS g _ _ cs_X10_63 (c_needArg _ M false) rfl (by rw [hR]; decide) (by rw [hR]; decide) (by rw [hR]; decide) (Nat.le_of_ble_eq_true rfl) rfl dX10_move_28 (fun E9 M9 h9 => by obtain ⟨-, rfl, rfl⟩ := h9; exact zx_out g hrt hno (by decide) (by decide) ⟨rfl, Or.inr (Or.inl ⟨by simp [cMove, hF, hcl, c_12], rfl⟩)⟩) (fun _ _ h => by cases h.1)
  · first | rw [b2i_n0] at c_12 | rw [b2i_0] at c_12 | skip
    refine z_iload g dX10_move_15 rfl ?_
    refine z_callS g _ _ cs_X10_100 (c_isDay _ M d) rfl (by rw [hR]; decide) (by rw [hR]; decide) (by rw [hR]; decide) (Nat.le_of_ble_eq_true rfl) rfl dX10_move_17 (fun _ _ h => False.elim h) (fun r_17 M_17 h_17 => ?_)
    obtain ⟨rfl, rfl⟩ := h_17
    rw [show dayB d = inB d 0 9999 from rfl]
    refine z_if_eq (tgt := 27) g dX10_move_20 (by decide) (fun c_20 => ?_) (fun c_20 => ?_)
    · first | rw [b2i_n0] at c_20 | rw [b2i_0] at c_20 | skip
      refine z_iconst (v := 0) g dX10_move_27 (by decide) ?_
      exact z_callS g _ _ cs_X10_63 (c_needArg _ M false) rfl (by rw [hR]; decide) (by rw [hR]; decide) (by rw [hR]; decide) (Nat.le_of_ble_eq_true rfl) rfl dX10_move_28 (fun E9 M9 h9 => by obtain ⟨-, rfl, rfl⟩ := h9; exact zx_out g hrt hno (by decide) (by decide) ⟨rfl, Or.inr (Or.inl ⟨by simp [cMove, hF, hcl, c_12, c_20], rfl⟩)⟩) (fun _ _ h => by cases h.1)
    · first | rw [b2i_n0] at c_20 | rw [b2i_0] at c_20 | skip
      refine z_iconst (v := 1) g dX10_move_23 (by decide) ?_
      refine z_goto (tgt := 28) g dX10_move_24 (by decide) ?_
      refine z_callS g _ _ cs_X10_63 (c_needArg _ M true) rfl (by rw [hR]; decide) (by rw [hR]; decide) (by rw [hR]; decide) (Nat.le_of_ble_eq_true rfl) rfl dX10_move_28 (fun _ _ h => by cases h.1) (fun r_28 M_28 h_28 => ?_)
      obtain ⟨-, rfl, rfl⟩ := h_28
      have LKh := qp.LK qf hV hj
      have h5 := (hV.2.1 j hj).2.2.1
      refine z_aload g dX10_move_31 rfl ?_
      refine z_getR g fl_X10_82 (by assumption) (by decide) rfl (by assumption) dX10_move_33 ?_
      refine z_callV g _ _ cv_X10_104 (c_isFull _ M (B 5 (2 * j)) (B 412 j) k5a1 e5a (LKh).1) (by assumption) (by decide) rfl (by rw [hR]; decide) (by rw [hR]; decide) (by rw [hR]; decide) (Nat.le_of_ble_eq_true rfl) rfl dX10_move_36 (fun _ _ h => False.elim h) (fun r_36 M_36 h_36 => ?_)
      obtain ⟨rfl, rfl⟩ := h_36
      rw [full_p qp hV hj]
      refine z_if_ne (tgt := 46) g dX10_move_39 (by decide) (fun c_39 => ?_) (fun c_39 => ?_)
      · have h17 : gA S 5 j = 40 := of_decide_eq_true (b2i_n0.mp c_39)
        refine z_iconst (v := 0) g dX10_move_46 (by decide) ?_
        exact z_callS g _ _ cs_X10_71 (c_needSt _ M false) rfl (by rw [hR]; decide) (by rw [hR]; decide) (by rw [hR]; decide) (Nat.le_of_ble_eq_true rfl) rfl dX10_move_47 (fun E9 M9 h9 => by obtain ⟨-, rfl, rfl⟩ := h9; exact zx_out g hrt hno (by decide) (by decide) ⟨rfl, Or.inr (Or.inr (⟨by simp [cMove, hF, hcl, h17, c_12, c_20], rfl⟩))⟩) (fun _ _ h => by cases h.1)
      · have h17 : ¬ gA S 5 j = 40 := of_decide_eq_false (b2i_0.mp c_39)
        refine z_iconst (v := 1) g dX10_move_42 (by decide) ?_
        refine z_goto (tgt := 47) g dX10_move_43 (by decide) ?_
        refine z_callS g _ _ cs_X10_71 (c_needSt _ M true) rfl (by rw [hR]; decide) (by rw [hR]; decide) (by rw [hR]; decide) (Nat.le_of_ble_eq_true rfl) rfl dX10_move_47 (fun _ _ h => by cases h.1) (fun r_47 M_47 h_47 => ?_)
        obtain ⟨-, rfl, rfl⟩ := h_47
        have h40 : ca S 5 j < 40 := ne40 h5.1 h5.2 h17
        refine z_aload g dX10_move_50 rfl ?_
        refine z_getR g fl_X10_82 (by assumption) (by decide) rfl (by assumption) dX10_move_52 ?_
        refine z_iload_n g dX10_move_55 rfl ?_
        refine z_iload_n g dX10_move_56 rfl ?_
        refine z_callS g _ _ cs_X10_86 (c_plN _ M p q) rfl (by rw [hR]; decide) (by rw [hR]; decide) (by rw [hR]; decide) (Nat.le_of_ble_eq_true rfl) rfl dX10_move_57 (fun _ _ h => False.elim h) (fun r_57 M_57 h_57 => ?_)
        obtain ⟨rfl, rfl⟩ := h_57
        refine z_iload g dX10_move_60 rfl ?_
        refine z_aload_n g dX10_move_62 rfl ?_
        refine z_getI g fl_X10_76 (by assumption) (by decide) rfl dX10_move_63 ?_
        rw [show fI M x 10 = gi S 1 from qs.1]
        refine z_callV g _ _ cv_X10_90 (c_tell _ M (B 5 (2 * j)) (B 412 j) 2 k5a1 e5a LKh (by rw [(qp j hj).1]; omega) rfl (p * 100 + q) d (gi S 1)) (by assumption) (by decide) rfl (by rw [hR]; decide) (by rw [hR]; decide) (by rw [hR]; decide) (Nat.le_of_ble_eq_true rfl) rfl dX10_move_66 (fun _ _ h => False.elim h) (fun r_66 M_66 h_66 => ?_)
        obtain ⟨e, he, rfl, rfl⟩ := h_66
        exact z_vret g hrt (by decide) (by decide) dX10_move_69 ⟨by simp [cMove, hF, hcl, h17, c_12, c_20], rfl, (RX_move hX0 hV (p := p) (q := q) (d := d) hj h40 he).2, B, by unfold sMove sPla; rw [hcl]; exact (RX_move hX0 hV (p := p) (q := q) (d := d) hj h40 he).1⟩
set_option maxHeartbeats 4000000 in
set_option maxRecDepth 100000 in
theorem k_part (E : Ev) {B : Nat → Nat → Nat} {x : Nat} {S : Ms} (M : Mm) (hX : RX B x S M) (hV : INV S) (f w d : Int32) : CT E yX10_part cX10_part 5 none 10 16 500 [.ref x, .int f, .int w, .int d] M (fun r M' => cPart S f w d = 0 ∧ r = none ∧ agr TC M M' ∧ ∃ B', RX B' x (sPart S f w d) M') (fun E9 M' => M = M' ∧ ((cPart S f w d = 1 ∧ E9 = IOE) ∨ (cPart S f w d = 2 ∧ E9 = IAE) ∨ (cPart S f w d = 3 ∧ E9 = ISE))) := by
  refine CT.of rfl (Nat.le_of_ble_eq_true rfl) (fun X g hrt hno hE hN hR hI => ?_)
  subst hE
  have hX0 := hX
  obtain ⟨qx, qs, qf, qd, qg, qh, qp, qw, qm, qe, ql, qq, qt, qr, qc, qo, qi⟩ := hX
  have k11 : kd M x % 1000 = 11 := by rw [qx.1]
  have r0 : fR M x 0 = some (B 400 0) := (qx.2.1 0 (by decide)).1
  have kl0 : kd M (B 400 0) = 400 := (qx.2.1 0 (by decide)).2
  have l0 : LK M (B 400 0) 4 := qf.LK kl0 hV.c2
  have m0 := l0.1
  have n0 : ln M (B 400 0) = cn S 2 := qf.1
  have b0 := l0.2.1
  rw [n0] at b0
  refine z_aload_n g dX10_part_0 rfl ?_
  refine z_iload_n g dX10_part_1 rfl ?_
  refine z_callV g _ _ cv_X10_96 (k_feaAt _ M hX0 hV f) (by assumption) (by decide) rfl (by rw [hR]; decide) (by rw [hR]; decide) (by rw [hR]; decide) (Nat.le_of_ble_eq_true rfl) rfl dX10_part_2 (fun E9 M9 h9 => by obtain ⟨h9, rfl, rfl⟩ := h9; have hF := (isF_ix hV f).trans h9; exact zx_out g hrt hno (by decide) (by decide) ⟨rfl, Or.inl ⟨by simp [cPart, hF], rfl⟩⟩) (fun r_2 M_2 h_2 => ?_)
  obtain ⟨j, hj, rfl, rfl, rfl⟩ := h_2
  have hF : isF S (nI j) = true := isF_j hV hj
  have hcl : (nI j).toNatClampNeg = j := nI_clamp (by have := hV.c2; omega)
  have k4 : kd M (B 4 j) % 1000 = 4 := qf.k4 hj
  obtain ⟨-, -, ⟨fk0, fk1⟩, ⟨g2, g3, g4, g5, g6⟩, ⟨k5a, k5b, -⟩, e5a, e5b, l170⟩ := qf.2 j hj
  have k5a1 : kd M (B 5 (2 * j)) % 1000 = 5 := by rw [k5a]; omega
  have k5b1 : kd M (B 5 (2 * j + 1)) % 1000 = 5 := by rw [k5b]; omega
  have k170 : kd M (B 170 j) % 1000 = 170 := qf.k170 hj
  refine z_astore g dX10_part_5 (by rw [hN]; decide) ?_
  refine z_aload_n g dX10_part_7 rfl ?_
  refine z_iload_n g dX10_part_8 rfl ?_
  refine z_callV g _ _ cv_X10_108 (k_needFN _ M hX0 hV w) (by assumption) (by decide) rfl (by rw [hR]; decide) (by rw [hR]; decide) (by rw [hR]; decide) (Nat.le_of_ble_eq_true rfl) rfl dX10_part_9 (fun E9 M9 h9 => by obtain ⟨h9, rfl, rfl⟩ := h9; rw [← isF_ix hV] at h9; exact zx_out g hrt hno (by decide) (by decide) ⟨rfl, Or.inl ⟨by simp [cPart, hF, hcl, h9], rfl⟩⟩) (fun r_9 M_9 h_9 => ?_)
  obtain ⟨hNF, rfl, rfl⟩ := h_9
  rw [← isF_ix hV] at hNF
  refine z_iload_n g dX10_part_12 rfl ?_
  refine z_iload_n g dX10_part_13 rfl ?_
  refine z_icmp_ge (tgt := 28) g dX10_part_14 (by decide) (fun c_14 => ?_) (fun c_14 => ?_)
  · refine z_iconst (v := 0) g dX10_part_28 (by decide) ?_
    exact z_callS g _ _ cs_X10_63 (c_needArg _ M false) rfl (by rw [hR]; decide) (by rw [hR]; decide) (by rw [hR]; decide) (Nat.le_of_ble_eq_true rfl) rfl dX10_part_29 (fun E9 M9 h9 => by obtain ⟨-, rfl, rfl⟩ := h9; exact zx_out g hrt hno (by decide) (by decide) ⟨rfl, Or.inr (Or.inl ⟨by simp [cPart, hF, hcl, hNF, eq_true c_14], rfl⟩)⟩) (fun _ _ h => by cases h.1)
  · refine z_iload_n g dX10_part_17 rfl ?_
    refine z_callS g _ _ cs_X10_100 (c_isDay _ M d) rfl (by rw [hR]; decide) (by rw [hR]; decide) (by rw [hR]; decide) (Nat.le_of_ble_eq_true rfl) rfl dX10_part_18 (fun _ _ h => False.elim h) (fun r_18 M_18 h_18 => ?_)
    obtain ⟨rfl, rfl⟩ := h_18
    rw [show dayB d = inB d 0 9999 from rfl]
    refine z_if_eq (tgt := 28) g dX10_part_21 (by decide) (fun c_21 => ?_) (fun c_21 => ?_)
    · first | rw [b2i_n0] at c_21 | rw [b2i_0] at c_21 | skip
      refine z_iconst (v := 0) g dX10_part_28 (by decide) ?_
      exact z_callS g _ _ cs_X10_63 (c_needArg _ M false) rfl (by rw [hR]; decide) (by rw [hR]; decide) (by rw [hR]; decide) (Nat.le_of_ble_eq_true rfl) rfl dX10_part_29 (fun E9 M9 h9 => by obtain ⟨-, rfl, rfl⟩ := h9; exact zx_out g hrt hno (by decide) (by decide) ⟨rfl, Or.inr (Or.inl ⟨by simp [cPart, hF, hcl, hNF, eq_false c_14, c_21], rfl⟩)⟩) (fun _ _ h => by cases h.1)
    · first | rw [b2i_n0] at c_21 | rw [b2i_0] at c_21 | skip
      refine z_iconst (v := 1) g dX10_part_24 (by decide) ?_
      refine z_goto (tgt := 29) g dX10_part_25 (by decide) ?_
      refine z_callS g _ _ cs_X10_63 (c_needArg _ M true) rfl (by rw [hR]; decide) (by rw [hR]; decide) (by rw [hR]; decide) (Nat.le_of_ble_eq_true rfl) rfl dX10_part_29 (fun _ _ h => by cases h.1) (fun r_29 M_29 h_29 => ?_)
      obtain ⟨-, rfl, rfl⟩ := h_29
      have LKh := qw.LK qf hV hj
      have h5 := (hV.2.1 j hj).2.2.2.2.1
      refine z_aload g dX10_part_32 rfl ?_
      refine z_getR g fl_X10_112 (by assumption) (by decide) rfl (by assumption) dX10_part_34 ?_
      refine z_callV g _ _ cv_X10_104 (c_isFull _ M (B 5 (2 * j + 1)) (B 413 j) k5b1 e5b (LKh).1) (by assumption) (by decide) rfl (by rw [hR]; decide) (by rw [hR]; decide) (by rw [hR]; decide) (Nat.le_of_ble_eq_true rfl) rfl dX10_part_37 (fun _ _ h => False.elim h) (fun r_37 M_37 h_37 => ?_)
      obtain ⟨rfl, rfl⟩ := h_37
      rw [full_w qw hV hj]
      refine z_if_ne (tgt := 47) g dX10_part_40 (by decide) (fun c_40 => ?_) (fun c_40 => ?_)
      · have h17 : gA S 10 j = 40 := of_decide_eq_true (b2i_n0.mp c_40)
        refine z_iconst (v := 0) g dX10_part_47 (by decide) ?_
        exact z_callS g _ _ cs_X10_71 (c_needSt _ M false) rfl (by rw [hR]; decide) (by rw [hR]; decide) (by rw [hR]; decide) (Nat.le_of_ble_eq_true rfl) rfl dX10_part_48 (fun E9 M9 h9 => by obtain ⟨-, rfl, rfl⟩ := h9; exact zx_out g hrt hno (by decide) (by decide) ⟨rfl, Or.inr (Or.inr (⟨by simp [cPart, hF, hcl, hNF, h17, eq_false c_14, c_21], rfl⟩))⟩) (fun _ _ h => by cases h.1)
      · have h17 : ¬ gA S 10 j = 40 := of_decide_eq_false (b2i_0.mp c_40)
        refine z_iconst (v := 1) g dX10_part_43 (by decide) ?_
        refine z_goto (tgt := 48) g dX10_part_44 (by decide) ?_
        refine z_callS g _ _ cs_X10_71 (c_needSt _ M true) rfl (by rw [hR]; decide) (by rw [hR]; decide) (by rw [hR]; decide) (Nat.le_of_ble_eq_true rfl) rfl dX10_part_48 (fun _ _ h => by cases h.1) (fun r_48 M_48 h_48 => ?_)
        obtain ⟨-, rfl, rfl⟩ := h_48
        have h40 : ca S 10 j < 40 := ne40 h5.1 h5.2 h17
        refine z_aload g dX10_part_51 rfl ?_
        refine z_getR g fl_X10_112 (by assumption) (by decide) rfl (by assumption) dX10_part_53 ?_
        refine z_iload_n g dX10_part_56 rfl ?_
        refine z_iload_n g dX10_part_57 rfl ?_
        refine z_aload_n g dX10_part_58 rfl ?_
        refine z_getI g fl_X10_76 (by assumption) (by decide) rfl dX10_part_59 ?_
        rw [show fI M x 10 = gi S 1 from qs.1]
        refine z_callV g _ _ cv_X10_90 (c_tell _ M (B 5 (2 * j + 1)) (B 413 j) 2 k5b1 e5b LKh (by rw [(qw j hj).1]; omega) rfl w d (gi S 1)) (by assumption) (by decide) rfl (by rw [hR]; decide) (by rw [hR]; decide) (by rw [hR]; decide) (Nat.le_of_ble_eq_true rfl) rfl dX10_part_62 (fun _ _ h => False.elim h) (fun r_62 M_62 h_62 => ?_)
        obtain ⟨e, he, rfl, rfl⟩ := h_62
        exact z_vret g hrt (by decide) (by decide) dX10_part_65 ⟨by simp [cPart, hF, hcl, hNF, h17, eq_false c_14, c_21], rfl, (RX_part hX0 hV (w := w) (d := d) hj h40 he).2, B, by unfold sPart; rw [hcl]; exact (RX_part hX0 hV (w := w) (d := d) hj h40 he).1⟩
