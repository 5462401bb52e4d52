theorem inB_5 (d : Int32) : inB d 0 5 = (!decide (d < 0) && !decide ((6 : Int32) ≤ d)) := by
  rcases pk_ix d (n := 6) (by decide) with h | h | ⟨j, hj, rfl⟩
  · unfold inB
    rw [decide_eq_true h]; rfl
  · have h5 : (5 : Int32) < d := Int32.lt_of_lt_of_le (by decide : (5 : Int32) < nI 6) h
    have h6 : (6 : Int32) ≤ d := h
    unfold inB
    rw [decide_eq_true h5, decide_eq_true h6]
  · have key : ∀ j, j < 6 → inB (nI j) 0 5 = (!decide (nI j < 0) && !decide ((6 : Int32) ≤ nI j)) := by decide +kernel
    exact key j hj
set_option maxHeartbeats 4000000 in
set_option maxRecDepth 100000 in
theorem k_feature (E : Ev) {B : Nat → Nat → Nat} {x : Nat} {S : Ms} (M : Mm) (hX : RX B x S M) (hV : INV S) (k p q : Int32) : CT E yX10_feature cX10_feature 5 (some .int) 10 16 500 [.ref x, .int k, .int p, .int q] M (fun r M' => cFeature S k p q = 0 ∧ r = (some (.int (vFeature S k p q))) ∧ agr TC M M' ∧ ∃ B', RX B' x (sFeature S k p q) M') (fun E9 M' => M = M' ∧ ((cFeature S k p q = 1 ∧ E9 = IAE) ∨ (cFeature S k p q = 2 ∧ E9 = ISE))) := by
  refine CT.of rfl (Nat.le_of_ble_eq_true rfl) (fun X g hrt hno hE hN hR hI => ?_)
  subst hE
  have hX0 := hX
  obtain ⟨qx, qs, qf, qd, qg, qh, qp, qw, qm, qe, ql, qq, qt, qr, qc, qo, qi⟩ := hX
  have k11 : kd M x % 1000 = 11 := by rw [qx.1]
  have r0 : fR M x 0 = some (B 400 0) := (qx.2.1 0 (by decide)).1
  have kl0 : kd M (B 400 0) = 400 := (qx.2.1 0 (by decide)).2
  have l0 : LK M (B 400 0) 4 := qf.LK kl0 hV.c2
  have m0 := l0.1
  have n0 : ln M (B 400 0) = cn S 2 := qf.1
  have b0 := l0.2.1
  rw [n0] at b0
  have hc := hV.1.2.1
  refine z_iload_n g dX10_feature_0 rfl ?_
  refine z_if_lt (tgt := 22) g dX10_feature_1 (by decide) (fun c_1 => ?_) (fun c_1 => ?_)
  · refine z_iconst (v := 0) g dX10_feature_22 (by decide) ?_
    exact z_callS g _ _ cs_X10_63 (c_needArg _ M false) rfl (by rw [hR]; decide) (by rw [hR]; decide) (by rw [hR]; decide) (Nat.le_of_ble_eq_true rfl) rfl dX10_feature_23 (fun E9 M9 h9 => by obtain ⟨-, rfl, rfl⟩ := h9; exact zx_out g hrt hno (by decide) (by decide) ⟨rfl, Or.inl ⟨by simp [cFeature, inB_5, eq_true c_1], rfl⟩⟩) (fun _ _ h => by cases h.1)
  · refine z_iload_n g dX10_feature_4 rfl ?_
    refine z_bipush (v := 6) g dX10_feature_5 (by decide) ?_
    refine z_icmp_ge (tgt := 22) g dX10_feature_7 (by decide) (fun c_7 => ?_) (fun c_7 => ?_)
    · refine z_iconst (v := 0) g dX10_feature_22 (by decide) ?_
      exact z_callS g _ _ cs_X10_63 (c_needArg _ M false) rfl (by rw [hR]; decide) (by rw [hR]; decide) (by rw [hR]; decide) (Nat.le_of_ble_eq_true rfl) rfl dX10_feature_23 (fun E9 M9 h9 => by obtain ⟨-, rfl, rfl⟩ := h9; exact zx_out g hrt hno (by decide) (by decide) ⟨rfl, Or.inl ⟨by simp [cFeature, inB_5, eq_false c_1, eq_true c_7], rfl⟩⟩) (fun _ _ h => by cases h.1)
    · refine z_iload_n g dX10_feature_10 rfl ?_
      refine z_iload_n g dX10_feature_11 rfl ?_
      refine z_callS g _ _ cs_X10_59 (c_isPl _ M p q) rfl (by rw [hR]; decide) (by rw [hR]; decide) (by rw [hR]; decide) (Nat.le_of_ble_eq_true rfl) rfl dX10_feature_12 (fun _ _ h => False.elim h) (fun r_12 M_12 h_12 => ?_)
      obtain ⟨rfl, rfl⟩ := h_12
      rw [plB_e]
      refine z_if_eq (tgt := 22) g dX10_feature_15 (by decide) (fun c_15 => ?_) (fun c_15 => ?_)
      · first | rw [b2i_n0] at c_15 | rw [b2i_0] at c_15 | skip
        refine z_iconst (v := 0) g dX10_feature_22 (by decide) ?_
        exact z_callS g _ _ cs_X10_63 (c_needArg _ M false) rfl (by rw [hR]; decide) (by rw [hR]; decide) (by rw [hR]; decide) (Nat.le_of_ble_eq_true rfl) rfl dX10_feature_23 (fun E9 M9 h9 => by obtain ⟨-, rfl, rfl⟩ := h9; exact zx_out g hrt hno (by decide) (by decide) ⟨rfl, Or.inl ⟨by simp [cFeature, inB_5, eq_false c_1, eq_false c_7, c_15], rfl⟩⟩) (fun _ _ h => by cases h.1)
      · first | rw [b2i_n0] at c_15 | rw [b2i_0] at c_15 | skip
        refine z_iconst (v := 1) g dX10_feature_18 (by decide) ?_
        refine z_goto (tgt := 23) g dX10_feature_19 (by decide) ?_
        refine z_callS g _ _ cs_X10_63 (c_needArg _ M true) rfl (by rw [hR]; decide) (by rw [hR]; decide) (by rw [hR]; decide) (Nat.le_of_ble_eq_true rfl) rfl dX10_feature_23 (fun _ _ h => by cases h.1) (fun r_23 M_23 h_23 => ?_)
        obtain ⟨-, rfl, rfl⟩ := h_23
        refine z_aload_n g dX10_feature_26 rfl ?_
        refine z_getR g fl_X10_10 (by assumption) (by decide) rfl (by assumption) dX10_feature_27 ?_
        refine z_callL g _ _ cv_X10_67 rfl (c_alsize _ M (B 400 0) l0.1) (by assumption) rfl (by rw [hR]; decide) (by rw [hR]; decide) (by rw [hR]; decide) (Nat.le_of_ble_eq_true rfl) rfl dX10_feature_30 (fun _ _ h => False.elim h) (fun r_30 M_30 h_30 => ?_)
        obtain ⟨rfl, rfl⟩ := h_30
        rw [n0]
        refine z_bipush (v := 24) g dX10_feature_33 (by decide) ?_
        refine z_icmp_ge (tgt := 42) g dX10_feature_35 (by decide) (fun c_35 => ?_) (fun c_35 => ?_)
        · have h17 : gi S 2 = 24 := hc.1.trans (cnt_ge (v := nI (cn S 2)) (N := 24) rfl hc.2 (by decide) c_35)
          refine z_iconst (v := 0) g dX10_feature_42 (by decide) ?_
          exact z_callS g _ _ cs_X10_71 (c_needSt _ M false) rfl (by rw [hR]; decide) (by rw [hR]; decide) (by rw [hR]; decide) (Nat.le_of_ble_eq_true rfl) rfl dX10_feature_43 (fun E9 M9 h9 => by obtain ⟨-, rfl, rfl⟩ := h9; exact zx_out g hrt hno (by decide) (by decide) ⟨rfl, Or.inr (⟨by simp [cFeature, inB_5, h17, eq_false c_1, eq_false c_7, c_15], rfl⟩)⟩) (fun _ _ h => by cases h.1)
        · have h17 : ¬ gi S 2 = 24 := fun z => (cnt_lt (v := nI (cn S 2)) (N := 24) rfl hc.2 (by decide) c_35).1 (hc.1.symm.trans z)
          have hlt := (cnt_lt (v := nI (cn S 2)) (N := 24) rfl hc.2 (by decide) c_35).2
          refine z_iconst (v := 1) g dX10_feature_38 (by decide) ?_
          refine z_goto (tgt := 43) g dX10_feature_39 (by decide) ?_
          refine z_callS g _ _ cs_X10_71 (c_needSt _ M true) rfl (by rw [hR]; decide) (by rw [hR]; decide) (by rw [hR]; decide) (Nat.le_of_ble_eq_true rfl) rfl dX10_feature_43 (fun _ _ h => by cases h.1) (fun r_43 M_43 h_43 => ?_)
          obtain ⟨-, rfl, rfl⟩ := h_43
          have hxk : kd M x ≠ 0 := by rw [qx.1]; decide
          refine z_new g (4 + 1000 * cn S 2) nw_X10_74 (by omega) (by decide) (by rw [hR]; decide) (by rw [hR]; decide) dX10_feature_46 (fun o ho => ?_)
          have hxo : x ≠ o := fun z => hxk (by rw [z]; exact ho)
          refine z_dup g dX10_feature_49 rfl ?_
          refine z_iload_n g dX10_feature_50 rfl ?_
          refine z_aload_n g dX10_feature_51 rfl ?_
          refine z_getI g fl_X10_76 (by rw [kd_al, if_neg hxo]; exact k11) (by decide) rfl dX10_feature_52 ?_
          rw [show fI (al M o (4 + 1000 * cn S 2) 0) x 10 = gi S 1 from by rw [fI_al, if_neg hxo]; exact qs.1]
          refine z_callI g _ _ ci_X10_79 (c_X3n _ _ o (cn S 2) (by rw [kd_al, if_pos rfl]; omega) k (gi S 1)) rfl (by rw [hR]; decide) (by rw [hR]; decide) (by rw [hR]; decide) (Nat.le_of_ble_eq_true rfl) rfl dX10_feature_55 (fun _ _ h => False.elim h) (fun r_55 M2 h_55 => ?_)
          obtain ⟨h1, l1, h2, l2, nl, el, ha, rfl, hz, hf⟩ := h_55
          have hwo : nwc M M2 o := ⟨ho, fun b hb => (same.al (fun z => hb (by rw [z]; exact ho))).tr (hf.1 b (by rw [kd_al, if_neg (fun z => hb (by rw [z]; exact ho))]; exact hb) (fun z => hb (by rw [z]; exact ho)))⟩
          have ko2 : kd M2 o % 1000 = 4 := by rw [hf.2.1, kd_al, if_pos rfl]; omega
          have kx2 : kd M2 x % 1000 = 11 := by rw [nwc_kd hwo hxk]; exact k11
          have fx2 : fI M2 x 10 = gi S 1 := (congrFun (hwo.2 x hxk).2.1 10).symm.trans qs.1
          have kh1 : kd M2 h1 % 1000 = 5 := by rw [hf.2.2.2.2.2.1.1]; omega
          have rh1 : fR M2 h1 0 = some l1 := hf.2.2.2.2.2.2.1
          have nl1 : ln M2 l1 = 0 := hf.2.2.2.2.2.2.2.2.1
          have LK1 : LK M2 l1 2 := ⟨by rw [hf.2.2.2.2.2.1.2.1]; omega, by rw [nl1]; decide, fun i hi => by rw [nl1] at hi; exact absurd hi (Nat.not_lt_zero i)⟩
          refine z_astore g dX10_feature_58 (by rw [hN]; decide) ?_
          refine z_aload g dX10_feature_60 rfl ?_
          refine z_getR g fl_X10_82 ko2 (by decide) rfl hf.2.2.2.2.1.1 dX10_feature_62 ?_
          refine z_iload_n g dX10_feature_65 rfl ?_
          refine z_iload_n g dX10_feature_66 rfl ?_
          refine z_callS g _ _ cs_X10_86 (c_plN _ M2 p q) rfl (by rw [hR]; decide) (by rw [hR]; decide) (by rw [hR]; decide) (Nat.le_of_ble_eq_true rfl) rfl dX10_feature_67 (fun _ _ h => False.elim h) (fun r_67 M_67 h_67 => ?_)
          obtain ⟨rfl, rfl⟩ := h_67
          refine z_aload_n g dX10_feature_70 rfl ?_
          refine z_getI g fl_X10_76 kx2 (by decide) rfl dX10_feature_71 ?_
          rw [fx2]
          refine z_aload_n g dX10_feature_74 rfl ?_
          refine z_getI g fl_X10_76 kx2 (by decide) rfl dX10_feature_75 ?_
          rw [fx2]
          refine z_callV g _ _ cv_X10_90 (c_tell _ M2 h1 l1 2 kh1 rh1 LK1 (by rw [nl1]; decide) rfl (p * 100 + q) (gi S 1) (gi S 1)) kh1 (by decide) rfl (by rw [hR]; decide) (by rw [hR]; decide) (by rw [hR]; decide) (Nat.le_of_ble_eq_true rfl) rfl dX10_feature_78 (fun _ _ h => False.elim h) (fun r_78 M_78 h_78 => ?_)
          obtain ⟨e, he, rfl, rfl⟩ := h_78
          obtain ⟨hw, -⟩ := fea_nwc (ke := 2) (v := p * 100 + q) (d := gi S 1) (n := gi S 1) ho hz.2.1 hf he
          have kx3 : kd (psh (entM M2 e 2 (p * 100 + q) (gi S 1) (gi S 1)) l1 e) x % 1000 = 11 := by rw [nwc_kd hw hxk]; exact k11
          have fx3 : fR (psh (entM M2 e 2 (p * 100 + q) (gi S 1) (gi S 1)) l1 e) x 0 = some (B 400 0) := (nwc_fR hw hxk 0).trans r0
          have ko3 : kd (psh (entM M2 e 2 (p * 100 + q) (gi S 1) (gi S 1)) l1 e) o % 1000 = 4 := by
            show kd (entM M2 e 2 (p * 100 + q) (gi S 1) (gi S 1)) o % 1000 = 4
            rw [kd_entM, if_neg (fun z => by rw [z, he] at ko2; cases ko2)]; exact ko2
          have LK0 : LK (psh (entM M2 e 2 (p * 100 + q) (gi S 1) (gi S 1)) l1 e) (B 400 0) 4 := LK_nwc hw l0 (by decide)
          have k40 : kd M (B 400 0) ≠ 0 := by rw [kl0]; decide
          have hl3 : ln (psh (entM M2 e 2 (p * 100 + q) (gi S 1) (gi S 1)) l1 e) (B 400 0) = cn S 2 := (nwc_ln hw k40).trans n0
          have hxl : x ≠ B 400 0 := fun z => by have := qx.1; rw [z, kl0] at this; cases this
          refine z_aload_n g dX10_feature_81 rfl ?_
          refine z_getR g fl_X10_10 kx3 (by decide) rfl fx3 dX10_feature_82 ?_
          refine z_aload g dX10_feature_85 rfl ?_
          refine z_callL g _ _ cv_X10_55 rfl (c_add2 _ (psh (entM M2 e 2 (p * 100 + q) (gi S 1) (gi S 1)) l1 e) (B 400 0) o LK0 (by decide) (by decide) (by rw [hl3]; omega) ko3) LK0.1 rfl (by rw [hR]; decide) (by rw [hR]; decide) (by rw [hR]; decide) (Nat.le_of_ble_eq_true rfl) rfl dX10_feature_87 (fun _ _ h => False.elim h) (fun r_87 M_87 h_87 => ?_)
          obtain ⟨rfl, rfl⟩ := h_87
          refine z_pop g dX10_feature_90 rfl ?_
          refine z_aload_n g dX10_feature_91 rfl ?_
          refine z_getR g fl_X10_10 (show kd (psh (psh (entM M2 e 2 (p * 100 + q) (gi S 1) (gi S 1)) l1 e) (B 400 0) o) x % 1000 = 11 from kx3) (by decide) rfl (by rw [psh_ro hxl]; exact fx3) dX10_feature_92 ?_
          have kk3 : 400 ≤ kd (psh (psh (entM M2 e 2 (p * 100 + q) (gi S 1) (gi S 1)) l1 e) (B 400 0) o) (B 400 0) % 1000 := LK0.1
          refine z_callL g _ _ cv_X10_67 rfl (c_alsize _ (psh (psh (entM M2 e 2 (p * 100 + q) (gi S 1) (gi S 1)) l1 e) (B 400 0) o) (B 400 0) kk3) kk3 rfl (by rw [hR]; decide) (by rw [hR]; decide) (by rw [hR]; decide) (Nat.le_of_ble_eq_true rfl) rfl dX10_feature_95 (fun _ _ h => False.elim h) (fun r_95 M_95 h_95 => ?_)
          obtain ⟨rfl, rfl⟩ := h_95
          rw [psh_ls, hl3]
          refine z_iconst (v := 1) g dX10_feature_98 (by decide) ?_
          refine z_isub g dX10_feature_99 ?_
          exact z_iret g hrt rfl (by decide) (by decide) dX10_feature_100 ⟨by simp [cFeature, inB_5, h17, eq_false c_1, eq_false c_7, c_15], by unfold vFeature; rw [nI_pred], (RX_feature hX0 hV (k := k) (p := p) (q := q) hlt ho hz hf he).2, fB B (cn S 2) o h1 l1 h2 l2 nl el ha, by exact (RX_feature hX0 hV (k := k) (p := p) (q := q) hlt ho hz hf he).1⟩
