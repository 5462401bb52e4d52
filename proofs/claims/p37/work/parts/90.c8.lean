set_option maxHeartbeats 4000000 in
set_option maxRecDepth 100000 in
theorem k_name (E : Ev) {B : Nat → Nat → Nat} {x : Nat} {S : Ms} (M : Mm) (hX : RX B x S M) (hV : INV S) (f t : Int32) (w : Int64) (d : Int32) : CT E yX10_name cX10_name 7 (some .int) 10 16 500 [.ref x, .int f, .int t, .long w, .int d] M (fun r M' => cName S f t w d = 0 ∧ r = (some (.int (vName S f t w d))) ∧ agr TC M M' ∧ ∃ B', RX B' x (sName S f t w d) M') (fun E9 M' => M = M' ∧ ((cName S f t w d = 1 ∧ E9 = IOE) ∨ (cName S f t w d = 2 ∧ E9 = IAE) ∨ (cName S f t w d = 3 ∧ E9 = ISE))) := by
  refine CT.of rfl (Nat.le_of_ble_eq_true rfl) (fun X g hrt hno hE hN hR hI => ?_)
  subst hE
  have hX0 := hX
  obtain ⟨qx, qs, qf, qd, qg, qh, qp, qw, qm, qe, ql, qq, qt, qr, qc, qo, qi⟩ := hX
  have k11 : kd M x % 1000 = 11 := by rw [qx.1]
  have hc := hV.1.2.2.1
  refine z_aload_n g dX10_name_0 rfl ?_
  refine z_iload_n g dX10_name_1 rfl ?_
  refine z_callV g _ _ cv_X10_96 (k_feaAt _ M hX0 hV f) (by assumption) (by decide) rfl (by rw [hR]; decide) (by rw [hR]; decide) (by rw [hR]; decide) (Nat.le_of_ble_eq_true rfl) rfl dX10_name_2 (fun E9 M9 h9 => by obtain ⟨h9, rfl, rfl⟩ := h9; have hF := (isF_ix hV f).trans h9; exact zx_out g hrt hno (by decide) (by decide) ⟨rfl, Or.inl ⟨by simp [cName, hF], rfl⟩⟩) (fun r_2 M_2 h_2 => ?_)
  obtain ⟨j, hj, rfl, rfl, rfl⟩ := h_2
  have hF : isF S (nI j) = true := isF_j hV hj
  have hcl : (nI j).toNatClampNeg = j := nI_clamp (by have := hV.c2; omega)
  have k4 : kd M (B 4 j) % 1000 = 4 := qf.k4 hj
  obtain ⟨-, -, ⟨fk0, fk1⟩, ⟨g2, g3, g4, g5, g6⟩, ⟨k5a, k5b, -⟩, e5a, e5b, l170⟩ := qf.2 j hj
  have k5a1 : kd M (B 5 (2 * j)) % 1000 = 5 := by rw [k5a]; omega
  have k5b1 : kd M (B 5 (2 * j + 1)) % 1000 = 5 := by rw [k5b]; omega
  have k170 : kd M (B 170 j) % 1000 = 170 := qf.k170 hj
  refine z_astore g dX10_name_5 (by rw [hN]; decide) ?_
  refine z_iload_n g dX10_name_7 rfl ?_
  refine z_callS g _ _ cs_X10_144 (c_needTg _ M t) rfl (by rw [hR]; decide) (by rw [hR]; decide) (by rw [hR]; decide) (Nat.le_of_ble_eq_true rfl) rfl dX10_name_8 (fun E9 M9 h9 => by obtain ⟨h9, rfl, rfl⟩ := h9; rw [tg_e] at h9; exact zx_out g hrt hno (by decide) (by decide) ⟨rfl, Or.inl ⟨by simp [cName, hF, hcl, h9], rfl⟩⟩) (fun r_8 M_8 h_8 => ?_)
  obtain ⟨hT_8, rfl, rfl⟩ := h_8
  rw [tg_e] at hT_8
  refine z_lload_n g dX10_name_11 rfl ?_
  refine z_bipush (v := 8) g dX10_name_12 (by decide) ?_
  refine z_callS g _ _ cs_X10_147 (c_isWd _ M w 8 (by decide)) rfl (by rw [hR]; decide) (by rw [hR]; decide) (by rw [hR]; decide) (Nat.le_of_ble_eq_true rfl) rfl dX10_name_14 (fun _ _ h => False.elim h) (fun r_14 M_14 h_14 => ?_)
  obtain ⟨rfl, rfl⟩ := h_14
  refine z_if_eq (tgt := 32) g dX10_name_17 (by decide) (fun c_17 => ?_) (fun c_17 => ?_)
  · first | rw [b2i_n0] at c_17 | rw [b2i_0] at c_17 | skip
    refine z_iconst (v := 0) g dX10_name_32 (by decide) ?_
    exact z_callS g _ _ cs_X10_63 (c_needArg _ M false) rfl (by rw [hR]; decide) (by rw [hR]; decide) (by rw [hR]; decide) (Nat.le_of_ble_eq_true rfl) rfl dX10_name_33 (fun E9 M9 h9 => by obtain ⟨-, rfl, rfl⟩ := h9; exact zx_out g hrt hno (by decide) (by decide) ⟨rfl, Or.inr (Or.inl ⟨by simp [cName, hF, hcl, hT_8, c_17], rfl⟩)⟩) (fun _ _ h => by cases h.1)
  · first | rw [b2i_n0] at c_17 | rw [b2i_0] at c_17 | skip
    refine z_iload g dX10_name_20 rfl ?_
    refine z_callS g _ _ cs_X10_100 (c_isDay _ M d) rfl (by rw [hR]; decide) (by rw [hR]; decide) (by rw [hR]; decide) (Nat.le_of_ble_eq_true rfl) rfl dX10_name_22 (fun _ _ h => False.elim h) (fun r_22 M_22 h_22 => ?_)
    obtain ⟨rfl, rfl⟩ := h_22
    rw [show dayB d = inB d 0 9999 from rfl]
    refine z_if_eq (tgt := 32) g dX10_name_25 (by decide) (fun c_25 => ?_) (fun c_25 => ?_)
    · first | rw [b2i_n0] at c_25 | rw [b2i_0] at c_25 | skip
      refine z_iconst (v := 0) g dX10_name_32 (by decide) ?_
      exact z_callS g _ _ cs_X10_63 (c_needArg _ M false) rfl (by rw [hR]; decide) (by rw [hR]; decide) (by rw [hR]; decide) (Nat.le_of_ble_eq_true rfl) rfl dX10_name_33 (fun E9 M9 h9 => by obtain ⟨-, rfl, rfl⟩ := h9; exact zx_out g hrt hno (by decide) (by decide) ⟨rfl, Or.inr (Or.inl ⟨by simp [cName, hF, hcl, hT_8, c_17, c_25], rfl⟩)⟩) (fun _ _ h => by cases h.1)
    · first | rw [b2i_n0] at c_25 | rw [b2i_0] at c_25 | skip
      refine z_iconst (v := 1) g dX10_name_28 (by decide) ?_
      refine z_goto (tgt := 33) g dX10_name_29 (by decide) ?_
      refine z_callS g _ _ cs_X10_63 (c_needArg _ M true) rfl (by rw [hR]; decide) (by rw [hR]; decide) (by rw [hR]; decide) (Nat.le_of_ble_eq_true rfl) rfl dX10_name_33 (fun _ _ h => by cases h.1) (fun r_33 M_33 h_33 => ?_)
      obtain ⟨-, rfl, rfl⟩ := h_33
      refine z_aload_n g dX10_name_36 rfl ?_
      refine z_getI g fl_X10_151 (by assumption) (by decide) rfl dX10_name_37 ?_
      rw [show fI M x 11 = gi S 17 from qs.2.1]
      refine z_bipush (v := 100) g dX10_name_40 (by decide) ?_
      refine z_icmp_ge (tgt := 62) g dX10_name_42 (by decide) (fun c_42 => ?_) (fun c_42 => ?_)
      · have h17 : gi S 17 = 100 := cnt_ge (N := 100) hc.1 hc.2 (by decide) c_42
        refine z_iconst (v := 0) g dX10_name_62 (by decide) ?_
        exact z_callS g _ _ cs_X10_71 (c_needSt _ M false) rfl (by rw [hR]; decide) (by rw [hR]; decide) (by rw [hR]; decide) (Nat.le_of_ble_eq_true rfl) rfl dX10_name_63 (fun E9 M9 h9 => by obtain ⟨-, rfl, rfl⟩ := h9; exact zx_out g hrt hno (by decide) (by decide) ⟨rfl, Or.inr (Or.inr (⟨by simp [cName, hF, hcl, hT_8, h17, c_17, c_25], rfl⟩))⟩) (fun _ _ h => by cases h.1)
      · have h17 : ¬ gi S 17 = 100 := (cnt_lt (N := 100) hc.1 hc.2 (by decide) c_42).1
        have hlt := (cnt_lt (N := 100) hc.1 hc.2 (by decide) c_42).2
        refine z_aload_n g dX10_name_45 rfl ?_
        refine z_aload g dX10_name_46 rfl ?_
        refine z_iload_n g dX10_name_48 rfl ?_
        refine z_lload_n g dX10_name_49 rfl ?_
        refine z_iload g dX10_name_50 rfl ?_
        refine z_callV g _ _ cv_X10_154 (k_ref _ M hX0 hV j hj t w d) (by assumption) (by decide) rfl (by rw [hR]; decide) (by rw [hR]; decide) (by rw [hR]; decide) (Nat.le_of_ble_eq_true rfl) rfl dX10_name_52 (fun _ _ h => False.elim h) (fun r_52 M_52 h_52 => ?_)
        obtain ⟨rfl, rfl⟩ := h_52
        refine z_if_ne (tgt := 62) g dX10_name_55 (by decide) (fun c_55 => ?_) (fun c_55 => ?_)
        · first | rw [b2i_n0] at c_55 | rw [b2i_0] at c_55 | skip
          refine z_iconst (v := 0) g dX10_name_62 (by decide) ?_
          exact z_callS g _ _ cs_X10_71 (c_needSt _ M false) rfl (by rw [hR]; decide) (by rw [hR]; decide) (by rw [hR]; decide) (Nat.le_of_ble_eq_true rfl) rfl dX10_name_63 (fun E9 M9 h9 => by obtain ⟨-, rfl, rfl⟩ := h9; exact zx_out g hrt hno (by decide) (by decide) ⟨rfl, Or.inr (Or.inr (⟨by simp [cName, hF, hcl, hT_8, h17, c_17, c_25, c_55], rfl⟩))⟩) (fun _ _ h => by cases h.1)
        · first | rw [b2i_n0] at c_55 | rw [b2i_0] at c_55 | skip
          refine z_iconst (v := 1) g dX10_name_58 (by decide) ?_
          refine z_goto (tgt := 63) g dX10_name_59 (by decide) ?_
          refine z_callS g _ _ cs_X10_71 (c_needSt _ M true) rfl (by rw [hR]; decide) (by rw [hR]; decide) (by rw [hR]; decide) (Nat.le_of_ble_eq_true rfl) rfl dX10_name_63 (fun _ _ h => by cases h.1) (fun r_63 M_63 h_63 => ?_)
          obtain ⟨-, rfl, rfl⟩ := h_63
          refine z_aload g dX10_name_66 rfl ?_
          refine z_getR g fl_X10_158 (by assumption) (by decide) rfl (by assumption) dX10_name_68 ?_
          have hxk : kd M x ≠ 0 := by rw [qx.1]; decide
          refine z_new g (7 + 1000 * cn S 17) nw_X10_161 (by omega) (by decide) (by rw [hR]; decide) (by rw [hR]; decide) dX10_name_71 (fun a ha => ?_)
          have hxa : x ≠ a := fun z => hxk (by rw [z]; exact ha)
          have hw := nwc_nm (ke := 7 + 1000 * cn S 17) (t := t) (d := d) (n := gi S 1) (w := w) ha
          refine z_dup g dX10_name_74 rfl ?_
          refine z_iload_n g dX10_name_75 rfl ?_
          refine z_lload_n g dX10_name_76 rfl ?_
          refine z_iload g dX10_name_77 rfl ?_
          refine z_aload_n g dX10_name_79 rfl ?_
          refine z_getI g fl_X10_76 (by rw [kd_al, if_neg hxa]; exact k11) (by decide) rfl dX10_name_80 ?_
          rw [show fI (al M a (7 + 1000 * cn S 17) 0) x 10 = gi S 1 from by rw [fI_al, if_neg hxa]; exact qs.1]
          refine z_callI g _ _ ci_X10_163 (c_X6i _ _ a (by rw [kd_al, if_pos rfl]; omega) t w d (gi S 1)) rfl (by rw [hR]; decide) (by rw [hR]; decide) (by rw [hR]; decide) (Nat.le_of_ble_eq_true rfl) rfl dX10_name_83 (fun _ _ h => False.elim h) (fun r_83 M_83 h_83 => ?_)
          obtain ⟨rfl, rfl⟩ := h_83
          have LKn := LK_nwc hw (qm.LK qf hV hj) (by decide)
          have hl100 : ln (nmM M a (7 + 1000 * cn S 17) t w d (gi S 1)) (B 410 j) < 100 := by rw [nwc_ln hw (fun z => by have := (qm.LK qf hV hj).1; rw [z] at this; exact absurd this (by decide))]; rw [qm.1 j hj]; have := ctn_le (ofN S j) (cn S 17); omega
          refine z_callL g _ _ cv_X10_55 rfl (c_add2 _ (nmM M a (7 + 1000 * cn S 17) t w d (gi S 1)) (B 410 j) a LKn (by decide) (by decide) hl100 (by rw [nm_new.1]; omega)) LKn.1 rfl (by rw [hR]; decide) (by rw [hR]; decide) (by rw [hR]; decide) (Nat.le_of_ble_eq_true rfl) rfl dX10_name_86 (fun _ _ h => False.elim h) (fun r_86 M_86 h_86 => ?_)
          obtain ⟨rfl, rfl⟩ := h_86
          have kx2 : kd (psh (nmM M a (7 + 1000 * cn S 17) t w d (gi S 1)) (B 410 j) a) x % 1000 = 11 := by
            show kd (nmM M a (7 + 1000 * cn S 17) t w d (gi S 1)) x % 1000 = 11
            rw [nwc_kd hw hxk]; exact k11
          have fx2 : ∀ k, fI (psh (nmM M a (7 + 1000 * cn S 17) t w d (gi S 1)) (B 410 j) a) x k = fI M x k := fun k => (congrFun (hw.2 x hxk).2.1 k).symm
          refine z_pop g dX10_name_89 rfl ?_
          refine z_aload_n g dX10_name_90 rfl ?_
          refine z_dup g dX10_name_91 rfl ?_
          refine z_getI g fl_X10_151 kx2 (by decide) rfl dX10_name_92 ?_
          rw [fx2, qs.2.1]
          refine z_iconst (v := 1) g dX10_name_95 (by decide) ?_
          refine z_iadd g dX10_name_96 ?_
          refine z_putI g fp_X10_151 kx2 (by decide) rfl (fun h => nomatch h) dX10_name_97 ?_
          refine z_aload_n g dX10_name_100 rfl ?_
          refine z_getI g fl_X10_151 kx2 (by decide) rfl dX10_name_101 ?_
          rw [fI_s]
          exact z_iret g hrt rfl (by decide) (by decide) dX10_name_104 ⟨by simp [cName, hF, hcl, hT_8, h17, c_17, c_25, c_55], by unfold vName; rw [hc.1, nI_s], (RX_name hX0 hV (t := t) (d := d) (w := w) hj hlt ha).2, up2 B 7 (cn S 17) a, by exact (RX_name hX0 hV (t := t) (d := d) (w := w) hj hlt ha).1⟩
set_option maxHeartbeats 4000000 in
set_option maxRecDepth 100000 in
theorem k_except (E : Ev) {B : Nat → Nat → Nat} {x : Nat} {S : Ms} (M : Mm) (hX : RX B x S M) (hV : INV S) (f t d : Int32) : CT E yX10_except cX10_except 5 none 10 16 500 [.ref x, .int f, .int t, .int d] M (fun r M' => cExcept S f t d = 0 ∧ r = none ∧ agr TC M M' ∧ ∃ B', RX B' x (sExcept S f t d) M') (fun E9 M' => M = M' ∧ ((cExcept S f t d = 1 ∧ E9 = IOE) ∨ (cExcept S f t d = 2 ∧ E9 = IAE) ∨ (cExcept S f t d = 3 ∧ E9 = ISE))) := by
  refine CT.of rfl (Nat.le_of_ble_eq_true rfl) (fun X g hrt hno hE hN hR hI => ?_)
  subst hE
  have hX0 := hX
  obtain ⟨qx, qs, qf, qd, qg, qh, qp, qw, qm, qe, ql, qq, qt, qr, qc, qo, qi⟩ := hX
  have k11 : kd M x % 1000 = 11 := by rw [qx.1]
  have hc := hV.1.2.2.2.2.1
  refine z_aload_n g dX10_except_0 rfl ?_
  refine z_iload_n g dX10_except_1 rfl ?_
  refine z_callV g _ _ cv_X10_96 (k_feaAt _ M hX0 hV f) (by assumption) (by decide) rfl (by rw [hR]; decide) (by rw [hR]; decide) (by rw [hR]; decide) (Nat.le_of_ble_eq_true rfl) rfl dX10_except_2 (fun E9 M9 h9 => by obtain ⟨h9, rfl, rfl⟩ := h9; have hF := (isF_ix hV f).trans h9; exact zx_out g hrt hno (by decide) (by decide) ⟨rfl, Or.inl ⟨by simp [cExcept, hF], rfl⟩⟩) (fun r_2 M_2 h_2 => ?_)
  obtain ⟨j, hj, rfl, rfl, rfl⟩ := h_2
  have hF : isF S (nI j) = true := isF_j hV hj
  have hcl : (nI j).toNatClampNeg = j := nI_clamp (by have := hV.c2; omega)
  have k4 : kd M (B 4 j) % 1000 = 4 := qf.k4 hj
  obtain ⟨-, -, ⟨fk0, fk1⟩, ⟨g2, g3, g4, g5, g6⟩, ⟨k5a, k5b, -⟩, e5a, e5b, l170⟩ := qf.2 j hj
  have k5a1 : kd M (B 5 (2 * j)) % 1000 = 5 := by rw [k5a]; omega
  have k5b1 : kd M (B 5 (2 * j + 1)) % 1000 = 5 := by rw [k5b]; omega
  have k170 : kd M (B 170 j) % 1000 = 170 := qf.k170 hj
  refine z_astore g dX10_except_5 (by rw [hN]; decide) ?_
  refine z_iload_n g dX10_except_7 rfl ?_
  refine z_callS g _ _ cs_X10_144 (c_needTg _ M t) rfl (by rw [hR]; decide) (by rw [hR]; decide) (by rw [hR]; decide) (Nat.le_of_ble_eq_true rfl) rfl dX10_except_8 (fun E9 M9 h9 => by obtain ⟨h9, rfl, rfl⟩ := h9; rw [tg_e] at h9; exact zx_out g hrt hno (by decide) (by decide) ⟨rfl, Or.inl ⟨by simp [cExcept, hF, hcl, h9], rfl⟩⟩) (fun r_8 M_8 h_8 => ?_)
  obtain ⟨hT_8, rfl, rfl⟩ := h_8
  rw [tg_e] at hT_8
  refine z_iload_n g dX10_except_11 rfl ?_
  refine z_callS g _ _ cs_X10_100 (c_isDay _ M d) rfl (by rw [hR]; decide) (by rw [hR]; decide) (by rw [hR]; decide) (Nat.le_of_ble_eq_true rfl) rfl dX10_except_12 (fun _ _ h => False.elim h) (fun r_12 M_12 h_12 => ?_)
  obtain ⟨rfl, rfl⟩ := h_12
  rw [show dayB d = inB d 0 9999 from rfl]
  refine z_callS g _ _ cs_X10_63 (c_needArg _ M (inB d 0 9999)) rfl (by rw [hR]; decide) (by rw [hR]; decide) (by rw [hR]; decide) (Nat.le_of_ble_eq_true rfl) rfl dX10_except_15 (fun E9 M9 h9 => by obtain ⟨h9, rfl, rfl⟩ := h9; exact zx_out g hrt hno (by decide) (by decide) ⟨rfl, Or.inr (Or.inl ⟨by simp [cExcept, hF, hcl, hT_8, h9], rfl⟩)⟩) (fun r_15 M_15 h_15 => ?_)
  obtain ⟨hb_15, rfl, rfl⟩ := h_15
  refine z_aload_n g dX10_except_18 rfl ?_
  refine z_getI g fl_X10_183 (by assumption) (by decide) rfl dX10_except_19 ?_
  rw [show fI M x 12 = gi S 31 from qs.2.2.1]
  refine z_bipush (v := 40) g dX10_except_22 (by decide) ?_
  refine z_icmp_ge (tgt := 31) g dX10_except_24 (by decide) (fun c_24 => ?_) (fun c_24 => ?_)
  · have h17 : gi S 31 = 40 := cnt_ge (N := 40) hc.1 hc.2 (by decide) c_24
    refine z_iconst (v := 0) g dX10_except_31 (by decide) ?_
    exact z_callS g _ _ cs_X10_71 (c_needSt _ M false) rfl (by rw [hR]; decide) (by rw [hR]; decide) (by rw [hR]; decide) (Nat.le_of_ble_eq_true rfl) rfl dX10_except_32 (fun E9 M9 h9 => by obtain ⟨-, rfl, rfl⟩ := h9; exact zx_out g hrt hno (by decide) (by decide) ⟨rfl, Or.inr (Or.inr (⟨by simp [cExcept, hF, hcl, hT_8, hb_15, h17], rfl⟩))⟩) (fun _ _ h => by cases h.1)
  · have h17 : ¬ gi S 31 = 40 := (cnt_lt (N := 40) hc.1 hc.2 (by decide) c_24).1
    have hlt := (cnt_lt (N := 40) hc.1 hc.2 (by decide) c_24).2
    refine z_iconst (v := 1) g dX10_except_27 (by decide) ?_
    refine z_goto (tgt := 32) g dX10_except_28 (by decide) ?_
    refine z_callS g _ _ cs_X10_71 (c_needSt _ M true) rfl (by rw [hR]; decide) (by rw [hR]; decide) (by rw [hR]; decide) (Nat.le_of_ble_eq_true rfl) rfl dX10_except_32 (fun _ _ h => by cases h.1) (fun r_32 M_32 h_32 => ?_)
    obtain ⟨-, rfl, rfl⟩ := h_32
    refine z_aload g dX10_except_35 rfl ?_
    refine z_getR g fl_X10_186 (by assumption) (by decide) rfl (by assumption) dX10_except_37 ?_
    have hxk : kd M x ≠ 0 := by rw [qx.1]; decide
    refine z_new g (3) nw_X10_189 (by omega) (by decide) (by rw [hR]; decide) (by rw [hR]; decide) dX10_except_40 (fun e he => ?_)
    have hxe : x ≠ e := fun z => hxk (by rw [z]; exact he)
    have hw : nwc M (sI (sI (sI (al M e 3 0) e 0 t) e 1 d) e 2 (gi S 1)) e := ⟨he, fun b hb => by
      have hne : b ≠ e := fun z => hb (by rw [z]; exact he)
      exact (((same.al hne).tr (same.sI hne)).tr (same.sI hne)).tr (same.sI hne)⟩
    refine z_dup g dX10_except_43 rfl ?_
    refine z_iload_n g dX10_except_44 rfl ?_
    refine z_iload_n g dX10_except_45 rfl ?_
    refine z_aload_n g dX10_except_46 rfl ?_
    refine z_getI g fl_X10_76 (by rw [kd_al, if_neg hxe]; exact k11) (by decide) rfl dX10_except_47 ?_
    rw [show fI (al M e (3) 0) x 10 = gi S 1 from by rw [fI_al, if_neg hxe]; exact qs.1]
    refine z_callI g _ _ ci_X10_191 (c_X2i _ _ e (by rw [kd_al, if_pos rfl]) t d (gi S 1)) rfl (by rw [hR]; decide) (by rw [hR]; decide) (by rw [hR]; decide) (Nat.le_of_ble_eq_true rfl) rfl dX10_except_50 (fun _ _ h => False.elim h) (fun r_50 M_50 h_50 => ?_)
    obtain ⟨rfl, rfl⟩ := h_50
    have LKn := LK_nwc hw (qe.LK qf hV hj) (by decide)
    have hl100 : ln (sI (sI (sI (al M e 3 0) e 0 t) e 1 d) e 2 (gi S 1)) (B 411 j) < 100 := by rw [nwc_ln hw (fun z => by have := (qe.LK qf hV hj).1; rw [z] at this; exact absurd this (by decide))]; rw [qe.1 j hj]; have := ctn_le (ofE S j) (cn S 31); omega
    refine z_callL g _ _ cv_X10_55 rfl (c_add2 _ (sI (sI (sI (al M e 3 0) e 0 t) e 1 d) e 2 (gi S 1)) (B 411 j) e LKn (by decide) (by decide) hl100 (by show kd (al M e 3 0) e % 1000 = 3; rw [kd_al, if_pos rfl])) LKn.1 rfl (by rw [hR]; decide) (by rw [hR]; decide) (by rw [hR]; decide) (Nat.le_of_ble_eq_true rfl) rfl dX10_except_53 (fun _ _ h => False.elim h) (fun r_53 M_53 h_53 => ?_)
    obtain ⟨rfl, rfl⟩ := h_53
    have kx2 : kd (psh (sI (sI (sI (al M e 3 0) e 0 t) e 1 d) e 2 (gi S 1)) (B 411 j) e) x % 1000 = 11 := by
      show kd (sI (sI (sI (al M e 3 0) e 0 t) e 1 d) e 2 (gi S 1)) x % 1000 = 11
      rw [nwc_kd hw hxk]; exact k11
    have fx2 : ∀ k, fI (psh (sI (sI (sI (al M e 3 0) e 0 t) e 1 d) e 2 (gi S 1)) (B 411 j) e) x k = fI M x k := fun k => (congrFun (hw.2 x hxk).2.1 k).symm
    refine z_pop g dX10_except_56 rfl ?_
    refine z_aload_n g dX10_except_57 rfl ?_
    refine z_dup g dX10_except_58 rfl ?_
    refine z_getI g fl_X10_183 kx2 (by decide) rfl dX10_except_59 ?_
    rw [fx2, qs.2.2.1]
    refine z_iconst (v := 1) g dX10_except_62 (by decide) ?_
    refine z_iadd g dX10_except_63 ?_
    refine z_putI g fp_X10_183 kx2 (by decide) rfl (fun h => nomatch h) dX10_except_64 ?_
    exact z_vret g hrt (by decide) (by decide) dX10_except_67 ⟨by simp [cExcept, hF, hcl, hT_8, hb_15, h17], rfl, (RX_except hX0 hV (t := t) (d := d) hj hlt he).2, B, by unfold sExcept; exact (RX_except hX0 hV (t := t) (d := d) hj hlt he).1⟩
set_option maxHeartbeats 4000000 in
set_option maxRecDepth 100000 in
theorem k_petition (E : Ev) {B : Nat → Nat → Nat} {x : Nat} {S : Ms} (M : Mm) (hX : RX B x S M) (hV : INV S) (f t : Int32) (w : Int64) (d : Int32) : CT E yX10_petition cX10_petition 7 (some .int) 10 16 500 [.ref x, .int f, .int t, .long w, .int d] M (fun r M' => cPetition S f t w d = 0 ∧ r = (some (.int (vPetition S f t w d))) ∧ agr TC M M' ∧ ∃ B', RX B' x (sPetition S f t w d) M') (fun E9 M' => M = M' ∧ ((cPetition S f t w d = 1 ∧ E9 = IOE) ∨ (cPetition S f t w d = 2 ∧ E9 = IAE) ∨ (cPetition S f t w d = 3 ∧ E9 = ISE))) := by
  refine CT.of rfl (Nat.le_of_ble_eq_true rfl) (fun X g hrt hno hE hN hR hI => ?_)
  subst hE
  have hX0 := hX
  obtain ⟨qx, qs, qf, qd, qg, qh, qp, qw, qm, qe, ql, qq, qt, qr, qc, qo, qi⟩ := hX
  have k11 : kd M x % 1000 = 11 := by rw [qx.1]
  have r2 : fR M x 2 = some (B 402 0) := (qx.2.1 2 (by decide)).1
  have kl2 : kd M (B 402 0) = 402 := (qx.2.1 2 (by decide)).2
  have l2 : LK M (B 402 0) 8 := qq.LK kl2 hV
  have m2 := l2.1
  have n2 : ln M (B 402 0) = cn S 36 := qq.1
  have b2 := l2.2.1
  rw [n2] at b2
  have hc := hV.1.2.2.2.2.2.1
  refine z_aload_n g dX10_petition_0 rfl ?_
  refine z_iload_n g dX10_petition_1 rfl ?_
  refine z_callV g _ _ cv_X10_96 (k_feaAt _ M hX0 hV f) (by assumption) (by decide) rfl (by rw [hR]; decide) (by rw [hR]; decide) (by rw [hR]; decide) (Nat.le_of_ble_eq_true rfl) rfl dX10_petition_2 (fun E9 M9 h9 => by obtain ⟨h9, rfl, rfl⟩ := h9; have hF := (isF_ix hV f).trans h9; exact zx_out g hrt hno (by decide) (by decide) ⟨rfl, Or.inl ⟨by simp [cPetition, hF], rfl⟩⟩) (fun r_2 M_2 h_2 => ?_)
  obtain ⟨j, hj, rfl, rfl, rfl⟩ := h_2
  have hF : isF S (nI j) = true := isF_j hV hj
  have hcl : (nI j).toNatClampNeg = j := nI_clamp (by have := hV.c2; omega)
  have k4 : kd M (B 4 j) % 1000 = 4 := qf.k4 hj
  obtain ⟨-, -, ⟨fk0, fk1⟩, ⟨g2, g3, g4, g5, g6⟩, ⟨k5a, k5b, -⟩, e5a, e5b, l170⟩ := qf.2 j hj
  have k5a1 : kd M (B 5 (2 * j)) % 1000 = 5 := by rw [k5a]; omega
  have k5b1 : kd M (B 5 (2 * j + 1)) % 1000 = 5 := by rw [k5b]; omega
  have k170 : kd M (B 170 j) % 1000 = 170 := qf.k170 hj
  refine z_astore g dX10_petition_5 (by rw [hN]; decide) ?_
  refine z_iload_n g dX10_petition_7 rfl ?_
  refine z_callS g _ _ cs_X10_144 (c_needTg _ M t) rfl (by rw [hR]; decide) (by rw [hR]; decide) (by rw [hR]; decide) (Nat.le_of_ble_eq_true rfl) rfl dX10_petition_8 (fun E9 M9 h9 => by obtain ⟨h9, rfl, rfl⟩ := h9; rw [tg_e] at h9; exact zx_out g hrt hno (by decide) (by decide) ⟨rfl, Or.inl ⟨by simp [cPetition, hF, hcl, h9], rfl⟩⟩) (fun r_8 M_8 h_8 => ?_)
  obtain ⟨hT_8, rfl, rfl⟩ := h_8
  rw [tg_e] at hT_8
  refine z_lload_n g dX10_petition_11 rfl ?_
  refine z_bipush (v := 8) g dX10_petition_12 (by decide) ?_
  refine z_callS g _ _ cs_X10_147 (c_isWd _ M w 8 (by decide)) rfl (by rw [hR]; decide) (by rw [hR]; decide) (by rw [hR]; decide) (Nat.le_of_ble_eq_true rfl) rfl dX10_petition_14 (fun _ _ h => False.elim h) (fun r_14 M_14 h_14 => ?_)
  obtain ⟨rfl, rfl⟩ := h_14
  refine z_if_eq (tgt := 44) g dX10_petition_17 (by decide) (fun c_17 => ?_) (fun c_17 => ?_)
  · first | rw [b2i_n0] at c_17 | rw [b2i_0] at c_17 | skip
    refine z_iconst (v := 0) g dX10_petition_44 (by decide) ?_
    exact z_callS g _ _ cs_X10_63 (c_needArg _ M false) rfl (by rw [hR]; decide) (by rw [hR]; decide) (by rw [hR]; decide) (Nat.le_of_ble_eq_true rfl) rfl dX10_petition_45 (fun E9 M9 h9 => by obtain ⟨-, rfl, rfl⟩ := h9; exact zx_out g hrt hno (by decide) (by decide) ⟨rfl, Or.inr (Or.inl ⟨by simp [cPetition, hF, hcl, hT_8, c_17], rfl⟩)⟩) (fun _ _ h => by cases h.1)
  · first | rw [b2i_n0] at c_17 | rw [b2i_0] at c_17 | skip
    refine z_iload g dX10_petition_20 rfl ?_
    refine z_callS g _ _ cs_X10_100 (c_isDay _ M d) rfl (by rw [hR]; decide) (by rw [hR]; decide) (by rw [hR]; decide) (Nat.le_of_ble_eq_true rfl) rfl dX10_petition_22 (fun _ _ h => False.elim h) (fun r_22 M_22 h_22 => ?_)
    obtain ⟨rfl, rfl⟩ := h_22
    rw [show dayB d = inB d 0 9999 from rfl]
    refine z_if_eq (tgt := 44) g dX10_petition_25 (by decide) (fun c_25 => ?_) (fun c_25 => ?_)
    · first | rw [b2i_n0] at c_25 | rw [b2i_0] at c_25 | skip
      refine z_iconst (v := 0) g dX10_petition_44 (by decide) ?_
      exact z_callS g _ _ cs_X10_63 (c_needArg _ M false) rfl (by rw [hR]; decide) (by rw [hR]; decide) (by rw [hR]; decide) (Nat.le_of_ble_eq_true rfl) rfl dX10_petition_45 (fun E9 M9 h9 => by obtain ⟨-, rfl, rfl⟩ := h9; exact zx_out g hrt hno (by decide) (by decide) ⟨rfl, Or.inr (Or.inl ⟨by simp [cPetition, hF, hcl, hT_8, c_17, c_25], rfl⟩)⟩) (fun _ _ h => by cases h.1)
    · first | rw [b2i_n0] at c_25 | rw [b2i_0] at c_25 | skip
      refine z_iload g dX10_petition_28 rfl ?_
      refine z_aload_n g dX10_petition_30 rfl ?_
      refine z_getI g fl_X10_76 (by assumption) (by decide) rfl dX10_petition_31 ?_
      rw [show fI M x 10 = gi S 1 from qs.1]
      refine z_bipush (v := 30) g dX10_petition_34 (by decide) ?_
      refine z_iadd g dX10_petition_36 ?_
      refine z_icmp_lt (tgt := 44) g dX10_petition_37 (by decide) (fun c_37 => ?_) (fun c_37 => ?_)
      · refine z_iconst (v := 0) g dX10_petition_44 (by decide) ?_
        exact z_callS g _ _ cs_X10_63 (c_needArg _ M false) rfl (by rw [hR]; decide) (by rw [hR]; decide) (by rw [hR]; decide) (Nat.le_of_ble_eq_true rfl) rfl dX10_petition_45 (fun E9 M9 h9 => by obtain ⟨-, rfl, rfl⟩ := h9; exact zx_out g hrt hno (by decide) (by decide) ⟨rfl, Or.inr (Or.inl ⟨by simp [cPetition, hF, hcl, hT_8, c_17, c_25, eq_true c_37], rfl⟩)⟩) (fun _ _ h => by cases h.1)
      · refine z_iconst (v := 1) g dX10_petition_40 (by decide) ?_
        refine z_goto (tgt := 45) g dX10_petition_41 (by decide) ?_
        refine z_callS g _ _ cs_X10_63 (c_needArg _ M true) rfl (by rw [hR]; decide) (by rw [hR]; decide) (by rw [hR]; decide) (Nat.le_of_ble_eq_true rfl) rfl dX10_petition_45 (fun _ _ h => by cases h.1) (fun r_45 M_45 h_45 => ?_)
        obtain ⟨-, rfl, rfl⟩ := h_45
        refine z_aload_n g dX10_petition_48 rfl ?_
        refine z_getR g fl_X10_19 (by assumption) (by decide) rfl (by assumption) dX10_petition_49 ?_
        refine z_callL g _ _ cv_X10_67 rfl (c_alsize _ M (B 402 0) l2.1) (by assumption) rfl (by rw [hR]; decide) (by rw [hR]; decide) (by rw [hR]; decide) (Nat.le_of_ble_eq_true rfl) rfl dX10_petition_52 (fun _ _ h => False.elim h) (fun r_52 M_52 h_52 => ?_)
        obtain ⟨rfl, rfl⟩ := h_52
        rw [n2]
        refine z_bipush (v := 16) g dX10_petition_55 (by decide) ?_
        refine z_icmp_ge (tgt := 64) g dX10_petition_57 (by decide) (fun c_57 => ?_) (fun c_57 => ?_)
        · have h17 : gi S 36 = 16 := hc.1.trans (cnt_ge (v := nI (cn S 36)) (N := 16) rfl hc.2 (by decide) c_57)
          refine z_iconst (v := 0) g dX10_petition_64 (by decide) ?_
          exact z_callS g _ _ cs_X10_71 (c_needSt _ M false) rfl (by rw [hR]; decide) (by rw [hR]; decide) (by rw [hR]; decide) (Nat.le_of_ble_eq_true rfl) rfl dX10_petition_65 (fun E9 M9 h9 => by obtain ⟨-, rfl, rfl⟩ := h9; exact zx_out g hrt hno (by decide) (by decide) ⟨rfl, Or.inr (Or.inr (⟨by simp [cPetition, hF, hcl, hT_8, h17, c_17, c_25, eq_false c_37], rfl⟩))⟩) (fun _ _ h => by cases h.1)
        · have h17 : ¬ gi S 36 = 16 := fun z => (cnt_lt (v := nI (cn S 36)) (N := 16) rfl hc.2 (by decide) c_57).1 (hc.1.symm.trans z)
          have hlt := (cnt_lt (v := nI (cn S 36)) (N := 16) rfl hc.2 (by decide) c_57).2
          refine z_iconst (v := 1) g dX10_petition_60 (by decide) ?_
          refine z_goto (tgt := 65) g dX10_petition_61 (by decide) ?_
          refine z_callS g _ _ cs_X10_71 (c_needSt _ M true) rfl (by rw [hR]; decide) (by rw [hR]; decide) (by rw [hR]; decide) (Nat.le_of_ble_eq_true rfl) rfl dX10_petition_65 (fun _ _ h => by cases h.1) (fun r_65 M_65 h_65 => ?_)
          obtain ⟨-, rfl, rfl⟩ := h_65
          refine z_aload_n g dX10_petition_68 rfl ?_
          refine z_getR g fl_X10_19 (by assumption) (by decide) rfl (by assumption) dX10_petition_69 ?_
          have hxk : kd M x ≠ 0 := by rw [qx.1]; decide
          refine z_new g (8 + 1000 * cn S 36) nw_X10_197 (by omega) (by decide) (by rw [hR]; decide) (by rw [hR]; decide) dX10_petition_72 (fun e he => ?_)
          have hxe : x ≠ e := fun z => hxk (by rw [z]; exact he)
          have hw : nwc M (sI (sL (sI (sR (sI (sI (al M e (8 + 1000 * cn S 36) 0) e 4 0) e 8 (-1)) e 0 (some (B 4 j))) e 1 t) e 2 w) e 3 d) e := ⟨he, fun b hb => by
            have hne : b ≠ e := fun z => hb (by rw [z]; exact he)
            exact ((((((same.al hne).tr (same.sI hne)).tr (same.sI hne)).tr (same.sR hne)).tr (same.sI hne)).tr (same.sL hne)).tr (same.sI hne)⟩
          refine z_dup g dX10_petition_75 rfl ?_
          refine z_aload g dX10_petition_76 rfl ?_
          refine z_iload_n g dX10_petition_78 rfl ?_
          refine z_lload_n g dX10_petition_79 rfl ?_
          refine z_iload g dX10_petition_80 rfl ?_
          refine z_callI g _ _ ci_X10_199 (c_X7i _ _ e (by rw [kd_al, if_pos rfl]; omega) (B 4 j) t w d) rfl (by rw [hR]; decide) (by rw [hR]; decide) (by rw [hR]; decide) (Nat.le_of_ble_eq_true rfl) rfl dX10_petition_82 (fun _ _ h => False.elim h) (fun r_82 M_82 h_82 => ?_)
          obtain ⟨rfl, rfl⟩ := h_82
          have LKn := LK_nwc hw (l2) (by decide)
          have hl100 : ln (sI (sL (sI (sR (sI (sI (al M e (8 + 1000 * cn S 36) 0) e 4 0) e 8 (-1)) e 0 (some (B 4 j))) e 1 t) e 2 w) e 3 d) (B 402 0) < 100 := by rw [nwc_ln hw (fun z => by have := (l2).1; rw [z] at this; exact absurd this (by decide))]; rw [n2]; omega
          refine z_callL g _ _ cv_X10_55 rfl (c_add2 _ (sI (sL (sI (sR (sI (sI (al M e (8 + 1000 * cn S 36) 0) e 4 0) e 8 (-1)) e 0 (some (B 4 j))) e 1 t) e 2 w) e 3 d) (B 402 0) e LKn (by decide) (by decide) hl100 (by show kd (al M e (8 + 1000 * cn S 36) 0) e % 1000 = 8; rw [kd_al, if_pos rfl]; omega)) LKn.1 rfl (by rw [hR]; decide) (by rw [hR]; decide) (by rw [hR]; decide) (Nat.le_of_ble_eq_true rfl) rfl dX10_petition_85 (fun _ _ h => False.elim h) (fun r_85 M_85 h_85 => ?_)
          obtain ⟨rfl, rfl⟩ := h_85
          have kx2 : kd (psh (sI (sL (sI (sR (sI (sI (al M e (8 + 1000 * cn S 36) 0) e 4 0) e 8 (-1)) e 0 (some (B 4 j))) e 1 t) e 2 w) e 3 d) (B 402 0) e) x % 1000 = 11 := by
            show kd (sI (sL (sI (sR (sI (sI (al M e (8 + 1000 * cn S 36) 0) e 4 0) e 8 (-1)) e 0 (some (B 4 j))) e 1 t) e 2 w) e 3 d) x % 1000 = 11
            rw [nwc_kd hw hxk]; exact k11
          have fx2 : ∀ k, fI (psh (sI (sL (sI (sR (sI (sI (al M e (8 + 1000 * cn S 36) 0) e 4 0) e 8 (-1)) e 0 (some (B 4 j))) e 1 t) e 2 w) e 3 d) (B 402 0) e) x k = fI M x k := fun k => (congrFun (hw.2 x hxk).2.1 k).symm
          have hxl : x ≠ B 402 0 := fun z => by have := qx.1; rw [z, kl2] at this; cases this
          have fr2 : fR (psh (sI (sL (sI (sR (sI (sI (al M e (8 + 1000 * cn S 36) 0) e 4 0) e 8 (-1)) e 0 (some (B 4 j))) e 1 t) e 2 w) e 3 d) (B 402 0) e) x 2 = some (B 402 0) := by rw [psh_ro hxl, nwc_fR hw hxk]; exact r2
          have kk2 : 400 ≤ kd (psh (sI (sL (sI (sR (sI (sI (al M e (8 + 1000 * cn S 36) 0) e 4 0) e 8 (-1)) e 0 (some (B 4 j))) e 1 t) e 2 w) e 3 d) (B 402 0) e) (B 402 0) % 1000 := LKn.1
          refine z_pop g dX10_petition_88 rfl ?_
          refine z_aload_n g dX10_petition_89 rfl ?_
          refine z_getR g fl_X10_19 kx2 (by decide) rfl fr2 dX10_petition_90 ?_
          refine z_callL g _ _ cv_X10_67 rfl (c_alsize _ (psh (sI (sL (sI (sR (sI (sI (al M e (8 + 1000 * cn S 36) 0) e 4 0) e 8 (-1)) e 0 (some (B 4 j))) e 1 t) e 2 w) e 3 d) (B 402 0) e) (B 402 0) kk2) kk2 rfl (by rw [hR]; decide) (by rw [hR]; decide) (by rw [hR]; decide) (Nat.le_of_ble_eq_true rfl) rfl dX10_petition_93 (fun _ _ h => False.elim h) (fun r_93 M_93 h_93 => ?_)
          obtain ⟨rfl, rfl⟩ := h_93
          rw [psh_ls, nwc_ln hw (by rw [kl2]; decide), n2]
          refine z_iconst (v := 1) g dX10_petition_96 (by decide) ?_
          refine z_isub g dX10_petition_97 ?_
          exact z_iret g hrt rfl (by decide) (by decide) dX10_petition_98 ⟨by simp [cPetition, hF, hcl, hT_8, h17, c_17, c_25, eq_false c_37], by unfold vPetition; rw [nI_pred], (RX_petition hX0 hV (t := t) (d := d) (w := w) hj hlt he).2, B, by unfold sPetition; exact (RX_petition hX0 hV (t := t) (d := d) (w := w) hj hlt he).1⟩
set_option maxHeartbeats 4000000 in
set_option maxRecDepth 100000 in
theorem k_reading (E : Ev) {B : Nat → Nat → Nat} {x : Nat} {S : Ms} (M : Mm) (hX : RX B x S M) (hV : INV S) (w : Int64) (p q : Int32) : CT E yX10_reading cX10_reading 5 (some .int) 10 16 500 [.ref x, .long w, .int p, .int q] M (fun r M' => cReading S w p q = 0 ∧ r = (some (.int (vReading S w p q))) ∧ agr TC M M' ∧ ∃ B', RX B' x (sReading S w p q) M') (fun E9 M' => M = M' ∧ ((cReading S w p q = 1 ∧ E9 = IAE) ∨ (cReading S w p q = 2 ∧ E9 = ISE))) := by
  refine CT.of rfl (Nat.le_of_ble_eq_true rfl) (fun X g hrt hno hE hN hR hI => ?_)
  subst hE
  have hX0 := hX
  obtain ⟨qx, qs, qf, qd, qg, qh, qp, qw, qm, qe, ql, qq, qt, qr, qc, qo, qi⟩ := hX
  have k11 : kd M x % 1000 = 11 := by rw [qx.1]
  have r4 : fR M x 4 = some (B 404 0) := (qx.2.1 4 (by decide)).1
  have kl4 : kd M (B 404 0) = 404 := (qx.2.1 4 (by decide)).2
  have l4 : LK M (B 404 0) 9 := qr.LK kl4 hV
  have m4 := l4.1
  have n4 : ln M (B 404 0) = cn S 51 := qr.1
  have b4 := l4.2.1
  rw [n4] at b4
  have hc := hV.1.2.2.2.2.2.2.1
  refine z_lload_n g dX10_reading_0 rfl ?_
  refine z_bipush (v := 8) g dX10_reading_1 (by decide) ?_
  refine z_callS g _ _ cs_X10_147 (c_isWd _ M w 8 (by decide)) rfl (by rw [hR]; decide) (by rw [hR]; decide) (by rw [hR]; decide) (Nat.le_of_ble_eq_true rfl) rfl dX10_reading_3 (fun _ _ h => False.elim h) (fun r_3 M_3 h_3 => ?_)
  obtain ⟨rfl, rfl⟩ := h_3
  refine z_if_eq (tgt := 22) g dX10_reading_6 (by decide) (fun c_6 => ?_) (fun c_6 => ?_)
  · first | rw [b2i_n0] at c_6 | rw [b2i_0] at c_6 | skip
    refine z_iconst (v := 0) g dX10_reading_22 (by decide) ?_
    exact z_callS g _ _ cs_X10_63 (c_needArg _ M false) rfl (by rw [hR]; decide) (by rw [hR]; decide) (by rw [hR]; decide) (Nat.le_of_ble_eq_true rfl) rfl dX10_reading_23 (fun E9 M9 h9 => by obtain ⟨-, rfl, rfl⟩ := h9; exact zx_out g hrt hno (by decide) (by decide) ⟨rfl, Or.inl ⟨by simp [cReading, c_6], rfl⟩⟩) (fun _ _ h => by cases h.1)
  · first | rw [b2i_n0] at c_6 | rw [b2i_0] at c_6 | skip
    refine z_iload_n g dX10_reading_9 rfl ?_
    refine z_iload g dX10_reading_10 rfl ?_
    refine z_callS g _ _ cs_X10_59 (c_isPl _ M p q) rfl (by rw [hR]; decide) (by rw [hR]; decide) (by rw [hR]; decide) (Nat.le_of_ble_eq_true rfl) rfl dX10_reading_12 (fun _ _ h => False.elim h) (fun r_12 M_12 h_12 => ?_)
    obtain ⟨rfl, rfl⟩ := h_12
    rw [plB_e]
    refine z_if_eq (tgt := 22) g dX10_reading_15 (by decide) (fun c_15 => ?_) (fun c_15 => ?_)
    · first | rw [b2i_n0] at c_15 | rw [b2i_0] at c_15 | skip
      refine z_iconst (v := 0) g dX10_reading_22 (by decide) ?_
      exact z_callS g _ _ cs_X10_63 (c_needArg _ M false) rfl (by rw [hR]; decide) (by rw [hR]; decide) (by rw [hR]; decide) (Nat.le_of_ble_eq_true rfl) rfl dX10_reading_23 (fun E9 M9 h9 => by obtain ⟨-, rfl, rfl⟩ := h9; exact zx_out g hrt hno (by decide) (by decide) ⟨rfl, Or.inl ⟨by simp [cReading, c_6, c_15], rfl⟩⟩) (fun _ _ h => by cases h.1)
    · first | rw [b2i_n0] at c_15 | rw [b2i_0] at c_15 | skip
      refine z_iconst (v := 1) g dX10_reading_18 (by decide) ?_
      refine z_goto (tgt := 23) g dX10_reading_19 (by decide) ?_
      refine z_callS g _ _ cs_X10_63 (c_needArg _ M true) rfl (by rw [hR]; decide) (by rw [hR]; decide) (by rw [hR]; decide) (Nat.le_of_ble_eq_true rfl) rfl dX10_reading_23 (fun _ _ h => by cases h.1) (fun r_23 M_23 h_23 => ?_)
      obtain ⟨-, rfl, rfl⟩ := h_23
      refine z_aload_n g dX10_reading_26 rfl ?_
      refine z_getR g fl_X10_25 (by assumption) (by decide) rfl (by assumption) dX10_reading_27 ?_
      refine z_callL g _ _ cv_X10_67 rfl (c_alsize _ M (B 404 0) l4.1) (by assumption) rfl (by rw [hR]; decide) (by rw [hR]; decide) (by rw [hR]; decide) (Nat.le_of_ble_eq_true rfl) rfl dX10_reading_30 (fun _ _ h => False.elim h) (fun r_30 M_30 h_30 => ?_)
      obtain ⟨rfl, rfl⟩ := h_30
      rw [n4]
      refine z_iconst (v := 4) g dX10_reading_33 (by decide) ?_
      refine z_icmp_ge (tgt := 41) g dX10_reading_34 (by decide) (fun c_34 => ?_) (fun c_34 => ?_)
      · have h17 : gi S 51 = 4 := hc.1.trans (cnt_ge (v := nI (cn S 51)) (N := 4) rfl hc.2 (by decide) c_34)
        refine z_iconst (v := 0) g dX10_reading_41 (by decide) ?_
        exact z_callS g _ _ cs_X10_71 (c_needSt _ M false) rfl (by rw [hR]; decide) (by rw [hR]; decide) (by rw [hR]; decide) (Nat.le_of_ble_eq_true rfl) rfl dX10_reading_42 (fun E9 M9 h9 => by obtain ⟨-, rfl, rfl⟩ := h9; exact zx_out g hrt hno (by decide) (by decide) ⟨rfl, Or.inr (⟨by simp [cReading, h17, c_6, c_15], rfl⟩)⟩) (fun _ _ h => by cases h.1)
      · have h17 : ¬ gi S 51 = 4 := fun z => (cnt_lt (v := nI (cn S 51)) (N := 4) rfl hc.2 (by decide) c_34).1 (hc.1.symm.trans z)
        have hlt := (cnt_lt (v := nI (cn S 51)) (N := 4) rfl hc.2 (by decide) c_34).2
        refine z_iconst (v := 1) g dX10_reading_37 (by decide) ?_
        refine z_goto (tgt := 42) g dX10_reading_38 (by decide) ?_
        refine z_callS g _ _ cs_X10_71 (c_needSt _ M true) rfl (by rw [hR]; decide) (by rw [hR]; decide) (by rw [hR]; decide) (Nat.le_of_ble_eq_true rfl) rfl dX10_reading_42 (fun _ _ h => by cases h.1) (fun r_42 M_42 h_42 => ?_)
        obtain ⟨-, rfl, rfl⟩ := h_42
        refine z_aload_n g dX10_reading_45 rfl ?_
        refine z_getR g fl_X10_25 (by assumption) (by decide) rfl (by assumption) dX10_reading_46 ?_
        have hxk : kd M x ≠ 0 := by rw [qx.1]; decide
        refine z_new g (9) nw_X10_305 (by omega) (by decide) (by rw [hR]; decide) (by rw [hR]; decide) dX10_reading_49 (fun e he => ?_)
        have hxe : x ≠ e := fun z => hxk (by rw [z]; exact he)
        have hw : nwc M (sI (sI (sL (al M e 9 0) e 0 w) e 1 p) e 2 q) e := ⟨he, fun b hb => by
          have hne : b ≠ e := fun z => hb (by rw [z]; exact he)
          exact (((same.al hne).tr (same.sL hne)).tr (same.sI hne)).tr (same.sI hne)⟩
        refine z_dup g dX10_reading_52 rfl ?_
        refine z_lload_n g dX10_reading_53 rfl ?_
        refine z_iload_n g dX10_reading_54 rfl ?_
        refine z_iload g dX10_reading_55 rfl ?_
        refine z_callI g _ _ ci_X10_307 (c_X8i _ _ e (by rw [kd_al, if_pos rfl]) w p q) rfl (by rw [hR]; decide) (by rw [hR]; decide) (by rw [hR]; decide) (Nat.le_of_ble_eq_true rfl) rfl dX10_reading_57 (fun _ _ h => False.elim h) (fun r_57 M_57 h_57 => ?_)
        obtain ⟨rfl, rfl⟩ := h_57
        have LKn := LK_nwc hw (l4) (by decide)
        have hl100 : ln (sI (sI (sL (al M e 9 0) e 0 w) e 1 p) e 2 q) (B 404 0) < 100 := by rw [nwc_ln hw (fun z => by have := (l4).1; rw [z] at this; exact absurd this (by decide))]; rw [n4]; omega
        refine z_callL g _ _ cv_X10_55 rfl (c_add2 _ (sI (sI (sL (al M e 9 0) e 0 w) e 1 p) e 2 q) (B 404 0) e LKn (by decide) (by decide) hl100 (by show kd (al M e 9 0) e % 1000 = 9; rw [kd_al, if_pos rfl])) LKn.1 rfl (by rw [hR]; decide) (by rw [hR]; decide) (by rw [hR]; decide) (Nat.le_of_ble_eq_true rfl) rfl dX10_reading_60 (fun _ _ h => False.elim h) (fun r_60 M_60 h_60 => ?_)
        obtain ⟨rfl, rfl⟩ := h_60
        have kx2 : kd (psh (sI (sI (sL (al M e 9 0) e 0 w) e 1 p) e 2 q) (B 404 0) e) x % 1000 = 11 := by
          show kd (sI (sI (sL (al M e 9 0) e 0 w) e 1 p) e 2 q) x % 1000 = 11
          rw [nwc_kd hw hxk]; exact k11
        have fx2 : ∀ k, fI (psh (sI (sI (sL (al M e 9 0) e 0 w) e 1 p) e 2 q) (B 404 0) e) x k = fI M x k := fun k => (congrFun (hw.2 x hxk).2.1 k).symm
        have hxl : x ≠ B 404 0 := fun z => by have := qx.1; rw [z, kl4] at this; cases this
        have fr2 : fR (psh (sI (sI (sL (al M e 9 0) e 0 w) e 1 p) e 2 q) (B 404 0) e) x 4 = some (B 404 0) := by rw [psh_ro hxl, nwc_fR hw hxk]; exact r4
        have kk2 : 400 ≤ kd (psh (sI (sI (sL (al M e 9 0) e 0 w) e 1 p) e 2 q) (B 404 0) e) (B 404 0) % 1000 := LKn.1
        refine z_pop g dX10_reading_63 rfl ?_
        refine z_aload_n g dX10_reading_64 rfl ?_
        refine z_getR g fl_X10_25 kx2 (by decide) rfl fr2 dX10_reading_65 ?_
        refine z_callL g _ _ cv_X10_67 rfl (c_alsize _ (psh (sI (sI (sL (al M e 9 0) e 0 w) e 1 p) e 2 q) (B 404 0) e) (B 404 0) kk2) kk2 rfl (by rw [hR]; decide) (by rw [hR]; decide) (by rw [hR]; decide) (Nat.le_of_ble_eq_true rfl) rfl dX10_reading_68 (fun _ _ h => False.elim h) (fun r_68 M_68 h_68 => ?_)
        obtain ⟨rfl, rfl⟩ := h_68
        rw [psh_ls, nwc_ln hw (by rw [kl4]; decide), n4]
        refine z_iconst (v := 1) g dX10_reading_71 (by decide) ?_
        refine z_isub g dX10_reading_72 ?_
        exact z_iret g hrt rfl (by decide) (by decide) dX10_reading_73 ⟨by simp [cReading, h17, c_6, c_15], by unfold vReading; rw [nI_pred], (RX_reading hX0 hV (w := w) (p := p) (q := q) hlt he).2, B, by unfold sReading; exact (RX_reading hX0 hV (w := w) (p := p) (q := q) hlt he).1⟩
set_option maxHeartbeats 4000000 in
set_option maxRecDepth 100000 in
theorem k_order (E : Ev) {B : Nat → Nat → Nat} {x : Nat} {S : Ms} (M : Mm) (hX : RX B x S M) (hV : INV S) (f : Int32) : CT E yX10_order cX10_order 3 (some .int) 10 16 500 [.ref x, .int f] M (fun r M' => cOrder S f = 0 ∧ r = (some (.int (vOrder S f))) ∧ agr TC M M' ∧ ∃ B', RX B' x (sOrder S f) M') (fun E9 M' => M = M' ∧ ((cOrder S f = 1 ∧ E9 = IOE) ∨ (cOrder S f = 2 ∧ E9 = ISE))) := by
  refine CT.of rfl (Nat.le_of_ble_eq_true rfl) (fun X g hrt hno hE hN hR hI => ?_)
  subst hE
  have hX0 := hX
  obtain ⟨qx, qs, qf, qd, qg, qh, qp, qw, qm, qe, ql, qq, qt, qr, qc, qo, qi⟩ := hX
  have k11 : kd M x % 1000 = 11 := by rw [qx.1]
  have r5 : fR M x 5 = some (B 405 0) := (qx.2.1 5 (by decide)).1
  have kl5 : kd M (B 405 0) = 405 := (qx.2.1 5 (by decide)).2
  have l5 : LK M (B 405 0) 4 := qo.LK qf kl5 hV
  have m5 := l5.1
  have n5 : ln M (B 405 0) = cn S 58 := qo.1
  have b5 := l5.2.1
  rw [n5] at b5
  refine z_aload_n g dX10_order_0 rfl ?_
  refine z_iload_n g dX10_order_1 rfl ?_
  refine z_callV g _ _ cv_X10_96 (k_feaAt _ M hX0 hV f) (by assumption) (by decide) rfl (by rw [hR]; decide) (by rw [hR]; decide) (by rw [hR]; decide) (Nat.le_of_ble_eq_true rfl) rfl dX10_order_2 (fun E9 M9 h9 => by obtain ⟨h9, rfl, rfl⟩ := h9; have hF := (isF_ix hV f).trans h9; exact zx_out g hrt hno (by decide) (by decide) ⟨rfl, Or.inl ⟨by simp [cOrder, waiL_wz, hF], rfl⟩⟩) (fun r_2 M_2 h_2 => ?_)
  obtain ⟨j, hj, rfl, rfl, rfl⟩ := h_2
  have hF : isF S (nI j) = true := isF_j hV hj
  have hcl : (nI j).toNatClampNeg = j := nI_clamp (by have := hV.c2; omega)
  have k4 : kd M (B 4 j) % 1000 = 4 := qf.k4 hj
  obtain ⟨-, -, ⟨fk0, fk1⟩, ⟨g2, g3, g4, g5, g6⟩, ⟨k5a, k5b, -⟩, e5a, e5b, l170⟩ := qf.2 j hj
  have k5a1 : kd M (B 5 (2 * j)) % 1000 = 5 := by rw [k5a]; omega
  have k5b1 : kd M (B 5 (2 * j + 1)) % 1000 = 5 := by rw [k5b]; omega
  have k170 : kd M (B 170 j) % 1000 = 170 := qf.k170 hj
  refine z_astore_n g dX10_order_5 (by rw [hN]; decide) ?_
  refine z_aload_n g dX10_order_6 rfl ?_
  refine z_getI g fl_X10_341 (by assumption) (by decide) rfl dX10_order_7 ?_
  rw [qo.2.2 j hj]
  refine z_if_ne (tgt := 17) g dX10_order_10 (by decide) (fun c_10 => ?_) (fun c_10 => ?_)
  · first | rw [b2i_n0] at c_10 | rw [b2i_0] at c_10 | skip
    refine z_iconst (v := 0) g dX10_order_17 (by decide) ?_
    exact z_callS g _ _ cs_X10_71 (c_needSt _ M false) rfl (by rw [hR]; decide) (by rw [hR]; decide) (by rw [hR]; decide) (Nat.le_of_ble_eq_true rfl) rfl dX10_order_18 (fun E9 M9 h9 => by obtain ⟨-, rfl, rfl⟩ := h9; exact zx_out g hrt hno (by decide) (by decide) ⟨rfl, Or.inr (⟨by simp [cOrder, waiL_wz, hF, hcl, c_10], rfl⟩)⟩) (fun _ _ h => by cases h.1)
  · first | rw [b2i_n0] at c_10 | rw [b2i_0] at c_10 | skip
    refine z_iconst (v := 1) g dX10_order_13 (by decide) ?_
    refine z_goto (tgt := 18) g dX10_order_14 (by decide) ?_
    refine z_callS g _ _ cs_X10_71 (c_needSt _ M true) rfl (by rw [hR]; decide) (by rw [hR]; decide) (by rw [hR]; decide) (Nat.le_of_ble_eq_true rfl) rfl dX10_order_18 (fun _ _ h => by cases h.1) (fun r_18 M_18 h_18 => ?_)
    obtain ⟨-, rfl, rfl⟩ := h_18
    have hwz : waiL S (nI j) (cn S 58) = false := by rw [waiL_wz]; exact c_10
    have hlt := ordLt hV hj hwz
    have hx4 := qf.nx4 qx hj
    refine z_aload_n g dX10_order_21 rfl ?_
    refine z_iconst (v := 1) g dX10_order_22 (by decide) ?_
    refine z_putZ g fp_X10_341 k4 (by decide) rfl (fun h => nomatch h) (Or.inr rfl) dX10_order_23 ?_
    refine z_aload_n g dX10_order_26 rfl ?_
    refine z_getR g fl_X10_28 k11 (by decide) rfl r5 dX10_order_27 ?_
    refine z_aload_n g dX10_order_30 rfl ?_
    refine z_callL g _ _ cv_X10_55 rfl (c_add2 _ (sI M (B 4 j) 13 1) (B 405 0) (B 4 j) (show LK (sI M (B 4 j) 13 1) (B 405 0) 4 from l5) (by decide) (by decide) (by show ln M (B 405 0) < 100; rw [n5]; omega) k4) m5 rfl (by rw [hR]; decide) (by rw [hR]; decide) (by rw [hR]; decide) (Nat.le_of_ble_eq_true rfl) rfl dX10_order_31 (fun _ _ h => False.elim h) (fun r_31 M_31 h_31 => ?_)
    obtain ⟨rfl, rfl⟩ := h_31
    refine z_pop g dX10_order_34 rfl ?_
    refine z_aload_n g dX10_order_35 rfl ?_
    have hxl : x ≠ B 405 0 := fun z => by have := qx.1; rw [z, kl5] at this; cases this
    refine z_getR g fl_X10_28 k11 (by decide) rfl (by rw [psh_ro hxl]; exact r5) dX10_order_36 ?_
    refine z_callL g _ _ cv_X10_67 rfl (c_alsize _ (psh (sI M (B 4 j) 13 1) (B 405 0) (B 4 j)) (B 405 0) m5) m5 rfl (by rw [hR]; decide) (by rw [hR]; decide) (by rw [hR]; decide) (Nat.le_of_ble_eq_true rfl) rfl dX10_order_39 (fun _ _ h => False.elim h) (fun r_39 M_39 h_39 => ?_)
    obtain ⟨rfl, rfl⟩ := h_39
    rw [psh_ls, show ln (sI M (B 4 j) 13 1) (B 405 0) = cn S 58 from n5]
    exact z_iret g hrt rfl (by decide) (by decide) dX10_order_42 ⟨by simp [cOrder, waiL_wz, hF, hcl, c_10], rfl, (RX_order hX0 hV hj hlt).2, B, by unfold sOrder; exact (RX_order hX0 hV hj hlt).1⟩
