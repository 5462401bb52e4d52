theorem frL_of {S : Ms} {f : Nat} {w : Int64} : ∀ {n j : Nat}, j < n → formA S (nI f) (nI j) (gi S 1) (gi S 1) = w → frL S f w n = true
  | 0, j, h, _ => absurd h (Nat.not_lt_zero j)
  | n + 1, j, h, e => by
    rw [frL]
    rcases Nat.lt_or_ge j n with z | z
    · rw [frL_of z e]; rfl
    · rw [show n = j by omega, decide_eq_true e, Bool.or_true]
theorem refL_of {S : Ms} {f : Nat} {t : Int32} {w : Int64} {d : Int32} : ∀ {n j : Nat}, j < n → (!decide (nI j = nI f) && (decide (gA S 3 j = 5) && (thA S j d (gi S 1) && (decide (whA S j d (gi S 1) = whA S f d (gi S 1)) && decide (formA S (nI j) t d (gi S 1) = w))))) = true → refL S f t w d n = true
  | 0, j, h, _ => absurd h (Nat.not_lt_zero j)
  | n + 1, j, h, e => by
    rw [refL]
    rcases Nat.lt_or_ge j n with z | z
    · rw [refL_of z e]; rfl
    · rw [show n = j by omega, e, Bool.or_true]
set_option maxHeartbeats 4000000 in
set_option maxRecDepth 100000 in
theorem k_fnw (E : Ev) {B : Nat → Nat → Nat} {x : Nat} {S : Ms} (M : Mm) (hX : RX B x S M) (hV : INV S) (f : Nat) (hf : f < cn S 2) (w : Int64) : CT E yX10_hasFormNow cX10_hasFormNow 5 (some .boolean) 6 0 0 [.ref x, .ref (B 4 f), .long w] M (ansI (b2i (frL S f w 4)) M) noX := by
  refine CT.of rfl (Nat.le_of_ble_eq_true rfl) (fun X g hrt hno hE hN hR hI => ?_)
  subst hE
  have hX0 := hX
  obtain ⟨qx, qs, qf, qd, qg, qh, qp, qw, qm, qe, ql, qq, qt, qr, qc, qo, qi⟩ := hX
  have k11 : kd M x % 1000 = 11 := by rw [qx.1]
  have loop : ∀ (k j : Nat) (hk : k + j = 4) (hn : frL S f w j = false), Z X M 0 0 3 [(0, .ref x), (1, .ref (B 4 f)), (2, .long w), (4, .int (nI j))] [] := by
    intro k
    induction k using Nat.strongRecOn with
    | _ k ih =>
      intro j hk hn
      refine z_iload g dX10_hasFormNow_3 rfl ?_
      refine z_iconst (v := 4) g dX10_hasFormNow_5 (by decide) ?_
      refine z_icmp_ge (tgt := 37) g dX10_hasFormNow_6 (by decide) (fun c_6 => ?_) (fun c_6 => ?_)
      · rw [show (4 : Int32) = nI 4 from rfl, nI_leI (by decide) (by omega)] at c_6
        refine z_iconst (v := 0) g dX10_hasFormNow_37 (by decide) ?_
        exact z_iret g hrt (by decide) (by decide) (by decide) dX10_hasFormNow_38 ⟨by rw [show (4 : Nat) = j by omega, hn]; rfl, rfl⟩
      have h6 : j < 4 := by rw [show (4 : Int32) = nI 4 from rfl, nI_leI (by decide) (by omega)] at c_6; omega
      refine z_aload_n g dX10_hasFormNow_9 rfl ?_
      refine z_aload_n g dX10_hasFormNow_10 rfl ?_
      refine z_iload g dX10_hasFormNow_11 rfl ?_
      refine z_aload_n g dX10_hasFormNow_13 rfl ?_
      refine z_getI g fl_X10_76 (by assumption) (by decide) rfl dX10_hasFormNow_14 ?_
      rw [show fI M x 10 = gi S 1 from qs.1]
      refine z_aload_n g dX10_hasFormNow_17 rfl ?_
      refine z_getI g fl_X10_76 (by assumption) (by decide) rfl dX10_hasFormNow_18 ?_
      rw [show fI M x 10 = gi S 1 from qs.1]
      refine z_callV g _ _ cv_X10_193 (k_form _ M hX0 hV f hf (nI j) (gi S 1) (gi S 1)) (by assumption) (by decide) rfl (by rw [hR]; decide) (by rw [hR]; decide) (by rw [hR]; decide) (Nat.le_of_ble_eq_true rfl) rfl dX10_hasFormNow_21 (fun _ _ h => False.elim h) (fun r_21 M_21 h_21 => ?_)
      obtain ⟨rfl, rfl⟩ := h_21
      refine z_lload_n g dX10_hasFormNow_24 rfl ?_
      refine z_lcmp g dX10_hasFormNow_25 ?_
      refine z_if_ne (tgt := 31) g dX10_hasFormNow_26 (by decide) (fun c_26 => ?_) (fun c_26 => ?_)
      · refine z_iinc1 g dX10_hasFormNow_31 rfl (by rw [hN]; decide) ?_
        refine z_goto (tgt := 3) g dX10_hasFormNow_34 (by decide) ?_
        rw [nI_s]
        refine z_to (ih (k - 1) (by omega) (j + 1) (by omega) ?_) ⟨rfl, rfl, rfl, rfl, trivial⟩
        rw [frL, hn, decide_eq_false (fun z => c_26 ((lg_cmp_eq _ _).mpr z))]; rfl
      · refine z_iconst (v := 1) g dX10_hasFormNow_29 (by decide) ?_
        exact z_iret g hrt (by decide) (by decide) (by decide) dX10_hasFormNow_30 ⟨by rw [frL_of h6 ((lg_cmp_eq _ _).mp c_26)]; rfl, rfl⟩
  refine z_iconst (v := 0) g dX10_hasFormNow_0 (by decide) ?_
  refine z_istore g dX10_hasFormNow_1 (by rw [hN]; decide) ?_
  exact z_to (loop 4 0 rfl rfl) ⟨rfl, rfl, rfl, rfl, trivial⟩
set_option maxHeartbeats 4000000 in
set_option maxRecDepth 100000 in
theorem k_ref (E : Ev) {B : Nat → Nat → Nat} {x : Nat} {S : Ms} (M : Mm) (hX : RX B x S M) (hV : INV S) (f : Nat) (hf : f < cn S 2) (t : Int32) (w : Int64) (d : Int32) : CT E yX10_isRefused cX10_isRefused 10 (some .boolean) 6 0 0 [.ref x, .ref (B 4 f), .int t, .long w, .int d] M (ansI (b2i (refA S f t w d)) M) noX := by
  refine CT.of rfl (Nat.le_of_ble_eq_true rfl) (fun X g hrt hno hE hN hR hI => ?_)
  subst hE
  have hX0 := hX
  obtain ⟨qx, qs, qf, qd, qg, qh, qp, qw, qm, qe, ql, qq, qt, qr, qc, qo, qi⟩ := hX
  have k11 : kd M x % 1000 = 11 := by rw [qx.1]
  have r0 : fR M x 0 = some (B 400 0) := (qx.2.1 0 (by decide)).1
  have kl0 : kd M (B 400 0) = 400 := (qx.2.1 0 (by decide)).2
  have l0 : LK M (B 400 0) 4 := qf.LK kl0 hV.c2
  have m0 := l0.1
  have n0 : ln M (B 400 0) = cn S 2 := qf.1
  have b0 := l0.2.1
  rw [n0] at b0
  have k4 : kd M (B 4 f) % 1000 = 4 := qf.k4 hf
  obtain ⟨-, -, ⟨fk0, fk1⟩, ⟨g2, g3, g4, g5, g6⟩, ⟨k5a, k5b, -⟩, e5a, e5b, l170⟩ := qf.2 f hf
  have k5a1 : kd M (B 5 (2 * f)) % 1000 = 5 := by rw [k5a]; omega
  have k5b1 : kd M (B 5 (2 * f + 1)) % 1000 = 5 := by rw [k5b]; omega
  have k170 : kd M (B 170 f) % 1000 = 170 := qf.k170 hf
  refine z_aload_n g dX10_isRefused_0 rfl ?_
  refine z_getR g fl_X10_112 (by assumption) (by decide) rfl (by assumption) dX10_isRefused_1 ?_
  refine z_iload g dX10_isRefused_4 rfl ?_
  refine z_aload_n g dX10_isRefused_6 rfl ?_
  refine z_getI g fl_X10_76 (by assumption) (by decide) rfl dX10_isRefused_7 ?_
  rw [show fI M x 10 = gi S 1 from qs.1]
  refine z_callV g _ _ cv_X10_131 (k_whA _ M hX0 hV f hf d (gi S 1)) (by assumption) (by decide) rfl (by rw [hR]; decide) (by rw [hR]; decide) (by rw [hR]; decide) (Nat.le_of_ble_eq_true rfl) rfl dX10_isRefused_10 (fun _ _ h => False.elim h) (fun r_10 M_10 h_10 => ?_)
  obtain ⟨rfl, rfl⟩ := h_10
  refine z_istore g dX10_isRefused_13 (by rw [hN]; decide) ?_
  refine z_aload_n g dX10_isRefused_15 rfl ?_
  refine z_getI g fl_X10_386 (by assumption) (by decide) rfl dX10_isRefused_16 ?_
  rw [fk0]
  refine z_iconst (v := 5) g dX10_isRefused_19 (by decide) ?_
  refine z_icmp_ne (tgt := 29) g dX10_isRefused_20 (by decide) (fun c_20 => ?_) (fun c_20 => ?_)
  · refine z_iconst (v := 0) g dX10_isRefused_29 (by decide) ?_
    exact z_iret g hrt (by decide) (by decide) (by decide) dX10_isRefused_30 ⟨by unfold refA; first | (rw [decide_eq_false c_20]; rfl) | (rw [decide_eq_true c_26, Bool.not_true, Bool.false_and, Bool.and_false]; rfl), rfl⟩
  · refine z_iload g dX10_isRefused_23 rfl ?_
    refine z_iconst (v := (-1)) g dX10_isRefused_25 (by decide) ?_
    refine z_icmp_ne (tgt := 31) g dX10_isRefused_26 (by decide) (fun c_26 => ?_) (fun c_26 => ?_)
    · have hk5 : gA S 3 f = 5 := c_20
      have hw1 : ¬ whA S f d (gi S 1) = -1 := c_26
      have loop : ∀ (k j : Nat) (hk : k + j = cn S 2) (hn : refL S f t w d j = false), Z X M 0 0 34 [(0, .ref x), (1, .ref (B 4 f)), (2, .int t), (3, .long w), (5, .int d), (6, .int (whA S f d (gi S 1))), (7, .int (nI j))] [] := by
        intro k
        induction k using Nat.strongRecOn with
        | _ k ih =>
          intro j hk hn
          refine z_iload g dX10_isRefused_34 rfl ?_
          refine z_aload_n g dX10_isRefused_36 rfl ?_
          refine z_getR g fl_X10_10 (by assumption) (by decide) rfl (by assumption) dX10_isRefused_37 ?_
          refine z_callL g _ _ cv_X10_67 rfl (c_alsize _ M (B 400 0) l0.1) (by assumption) rfl (by rw [hR]; decide) (by rw [hR]; decide) (by rw [hR]; decide) (Nat.le_of_ble_eq_true rfl) rfl dX10_isRefused_40 (fun _ _ h => False.elim h) (fun r_40 M_40 h_40 => ?_)
          obtain ⟨rfl, rfl⟩ := h_40
          rw [n0]
          refine z_icmp_ge (tgt := 146) g dX10_isRefused_43 (by decide) (fun c_43 => ?_) (fun c_43 => ?_)
          · rw [nI_leI (by omega) (by omega)] at c_43
            rw [show j = cn S 2 by omega] at hn
            refine z_iconst (v := 0) g dX10_isRefused_146 (by decide) ?_
            exact z_iret g hrt (by decide) (by decide) (by decide) dX10_isRefused_147 ⟨by unfold refA; rw [hn, Bool.and_false, Bool.and_false]; rfl, rfl⟩
          have hj9 : j < cn S 2 := by rw [nI_leI (by omega) (by omega)] at c_43; omega
          refine z_aload_n g dX10_isRefused_46 rfl ?_
          refine z_getR g fl_X10_10 (by assumption) (by decide) rfl (by assumption) dX10_isRefused_47 ?_
          refine z_iload g dX10_isRefused_50 rfl ?_
          refine z_callL g _ _ cv_X10_310 rfl (c_getL _ M (B 400 0) j l0 (by rw [n0]; exact hj9)) (by assumption) rfl (by rw [hR]; decide) (by rw [hR]; decide) (by rw [hR]; decide) (Nat.le_of_ble_eq_true rfl) rfl dX10_isRefused_52 (fun _ _ h => False.elim h) (fun r_52 M_52 h_52 => ?_)
          obtain ⟨rfl, rfl⟩ := h_52
          rw [qf.at4 hj9]
          have kel : kd M (B 4 j) % 1000 = 4 := qf.k4 hj9
          obtain ⟨-, -, ⟨yk0, yk1⟩, ⟨y2, y3, -⟩, ⟨z5a, z5b, -⟩, -⟩ := qf.2 j hj9
          have z5b1 : kd M (B 5 (2 * j + 1)) % 1000 = 5 := by rw [z5b]; omega
          refine z_cast (b := 4) g cl_X10_74 rfl (by assumption) (by decide) dX10_isRefused_55 ?_
          refine z_astore g dX10_isRefused_58 (by rw [hN]; decide) ?_
          refine z_aload g dX10_isRefused_60 rfl ?_
          refine z_aload_n g dX10_isRefused_62 rfl ?_
          refine z_acmp_eq (tgt := 112) g dX10_isRefused_63 (by decide) (fun c_63 => ?_) (fun c_63 => ?_)
          · refine z_iconst (v := 0) g dX10_isRefused_112 (by decide) ?_
            refine z_istore g dX10_isRefused_113 (by rw [hN]; decide) ?_
            refine z_iload g dX10_isRefused_115 rfl ?_
            refine z_if_eq (tgt := 140) g dX10_isRefused_117 (by decide) (fun _ => ?_) (fun c_117 => absurd c_117 (by decide))
            refine z_iinc1 g dX10_isRefused_140 rfl (by rw [hN]; decide) ?_
            refine z_goto (tgt := 34) g dX10_isRefused_143 (by decide) ?_
            rw [nI_s]
            refine z_to (ih (k - 1) (by omega) (j + 1) (by omega) ?_) ⟨rfl, rfl, rfl, rfl, rfl, rfl, rfl, trivial⟩
            rw [refL, hn, Bool.false_or]
            first
              | (rw [show decide (nI j = nI f) = true from decide_eq_true (by
                  have e := Option.some.inj c_63
                  have e1 := (qf.2 j hj9).2.1
                  rw [e, (qf.2 f hf).2.1] at e1
                  rw [show j = f by omega])]; rfl)
              | (rw [decide_eq_false c_72, Bool.false_and, Bool.and_false]; done)
              | (rw [b2i_0.mp c_86, Bool.false_and, Bool.and_false, Bool.and_false]; done)
              | (rw [decide_eq_false c_105, Bool.false_and, Bool.and_false, Bool.and_false, Bool.and_false]; done)
              | (rw [decide_eq_false (fun z => c_135 ((lg_cmp_eq _ _).mpr z)), Bool.and_false, Bool.and_false, Bool.and_false, Bool.and_false]; done)
          · refine z_aload g dX10_isRefused_66 rfl ?_
            refine z_getI g fl_X10_386 (by assumption) (by decide) rfl dX10_isRefused_68 ?_
            rw [yk0]
            refine z_iconst (v := 5) g dX10_isRefused_71 (by decide) ?_
            refine z_icmp_ne (tgt := 112) g dX10_isRefused_72 (by decide) (fun c_72 => ?_) (fun c_72 => ?_)
            · refine z_iconst (v := 0) g dX10_isRefused_112 (by decide) ?_
              refine z_istore g dX10_isRefused_113 (by rw [hN]; decide) ?_
              refine z_iload g dX10_isRefused_115 rfl ?_
              refine z_if_eq (tgt := 140) g dX10_isRefused_117 (by decide) (fun _ => ?_) (fun c_117 => absurd c_117 (by decide))
              refine z_iinc1 g dX10_isRefused_140 rfl (by rw [hN]; decide) ?_
              refine z_goto (tgt := 34) g dX10_isRefused_143 (by decide) ?_
              rw [nI_s]
              refine z_to (ih (k - 1) (by omega) (j + 1) (by omega) ?_) ⟨rfl, rfl, rfl, rfl, rfl, rfl, rfl, trivial⟩
              rw [refL, hn, Bool.false_or]
              first
                | (rw [show decide (nI j = nI f) = true from decide_eq_true (by
                    have e := Option.some.inj c_63
                    have e1 := (qf.2 j hj9).2.1
                    rw [e, (qf.2 f hf).2.1] at e1
                    rw [show j = f by omega])]; rfl)
                | (rw [decide_eq_false c_72, Bool.false_and, Bool.and_false]; done)
                | (rw [b2i_0.mp c_86, Bool.false_and, Bool.and_false, Bool.and_false]; done)
                | (rw [decide_eq_false c_105, Bool.false_and, Bool.and_false, Bool.and_false, Bool.and_false]; done)
                | (rw [decide_eq_false (fun z => c_135 ((lg_cmp_eq _ _).mpr z)), Bool.and_false, Bool.and_false, Bool.and_false, Bool.and_false]; done)
            · refine z_aload g dX10_isRefused_75 rfl ?_
              refine z_iload g dX10_isRefused_77 rfl ?_
              refine z_aload_n g dX10_isRefused_79 rfl ?_
              refine z_getI g fl_X10_76 (by assumption) (by decide) rfl dX10_isRefused_80 ?_
              rw [show fI M x 10 = gi S 1 from qs.1]
              refine z_callV g _ _ cv_X10_128 (k_isTh _ M hX0 j hj9 d (gi S 1)) (by assumption) (by decide) rfl (by rw [hR]; decide) (by rw [hR]; decide) (by rw [hR]; decide) (Nat.le_of_ble_eq_true rfl) rfl dX10_isRefused_83 (fun _ _ h => False.elim h) (fun r_83 M_83 h_83 => ?_)
              obtain ⟨rfl, rfl⟩ := h_83
              refine z_if_eq (tgt := 112) g dX10_isRefused_86 (by decide) (fun c_86 => ?_) (fun c_86 => ?_)
              · refine z_iconst (v := 0) g dX10_isRefused_112 (by decide) ?_
                refine z_istore g dX10_isRefused_113 (by rw [hN]; decide) ?_
                refine z_iload g dX10_isRefused_115 rfl ?_
                refine z_if_eq (tgt := 140) g dX10_isRefused_117 (by decide) (fun _ => ?_) (fun c_117 => absurd c_117 (by decide))
                refine z_iinc1 g dX10_isRefused_140 rfl (by rw [hN]; decide) ?_
                refine z_goto (tgt := 34) g dX10_isRefused_143 (by decide) ?_
                rw [nI_s]
                refine z_to (ih (k - 1) (by omega) (j + 1) (by omega) ?_) ⟨rfl, rfl, rfl, rfl, rfl, rfl, rfl, trivial⟩
                rw [refL, hn, Bool.false_or]
                first
                  | (rw [show decide (nI j = nI f) = true from decide_eq_true (by
                      have e := Option.some.inj c_63
                      have e1 := (qf.2 j hj9).2.1
                      rw [e, (qf.2 f hf).2.1] at e1
                      rw [show j = f by omega])]; rfl)
                  | (rw [decide_eq_false c_72, Bool.false_and, Bool.and_false]; done)
                  | (rw [b2i_0.mp c_86, Bool.false_and, Bool.and_false, Bool.and_false]; done)
                  | (rw [decide_eq_false c_105, Bool.false_and, Bool.and_false, Bool.and_false, Bool.and_false]; done)
                  | (rw [decide_eq_false (fun z => c_135 ((lg_cmp_eq _ _).mpr z)), Bool.and_false, Bool.and_false, Bool.and_false, Bool.and_false]; done)
              · refine z_aload g dX10_isRefused_89 rfl ?_
                refine z_getR g fl_X10_112 (by assumption) (by decide) rfl (by assumption) dX10_isRefused_91 ?_
                refine z_iload g dX10_isRefused_94 rfl ?_
                refine z_aload_n g dX10_isRefused_96 rfl ?_
                refine z_getI g fl_X10_76 (by assumption) (by decide) rfl dX10_isRefused_97 ?_
                rw [show fI M x 10 = gi S 1 from qs.1]
                refine z_callV g _ _ cv_X10_131 (k_whA _ M hX0 hV j hj9 d (gi S 1)) (by assumption) (by decide) rfl (by rw [hR]; decide) (by rw [hR]; decide) (by rw [hR]; decide) (Nat.le_of_ble_eq_true rfl) rfl dX10_isRefused_100 (fun _ _ h => False.elim h) (fun r_100 M_100 h_100 => ?_)
                obtain ⟨rfl, rfl⟩ := h_100
                refine z_iload g dX10_isRefused_103 rfl ?_
                refine z_icmp_ne (tgt := 112) g dX10_isRefused_105 (by decide) (fun c_105 => ?_) (fun c_105 => ?_)
                · refine z_iconst (v := 0) g dX10_isRefused_112 (by decide) ?_
                  refine z_istore g dX10_isRefused_113 (by rw [hN]; decide) ?_
                  refine z_iload g dX10_isRefused_115 rfl ?_
                  refine z_if_eq (tgt := 140) g dX10_isRefused_117 (by decide) (fun _ => ?_) (fun c_117 => absurd c_117 (by decide))
                  refine z_iinc1 g dX10_isRefused_140 rfl (by rw [hN]; decide) ?_
                  refine z_goto (tgt := 34) g dX10_isRefused_143 (by decide) ?_
                  rw [nI_s]
                  refine z_to (ih (k - 1) (by omega) (j + 1) (by omega) ?_) ⟨rfl, rfl, rfl, rfl, rfl, rfl, rfl, trivial⟩
                  rw [refL, hn, Bool.false_or]
                  first
                    | (rw [show decide (nI j = nI f) = true from decide_eq_true (by
                        have e := Option.some.inj c_63
                        have e1 := (qf.2 j hj9).2.1
                        rw [e, (qf.2 f hf).2.1] at e1
                        rw [show j = f by omega])]; rfl)
                    | (rw [decide_eq_false c_72, Bool.false_and, Bool.and_false]; done)
                    | (rw [b2i_0.mp c_86, Bool.false_and, Bool.and_false, Bool.and_false]; done)
                    | (rw [decide_eq_false c_105, Bool.false_and, Bool.and_false, Bool.and_false, Bool.and_false]; done)
                    | (rw [decide_eq_false (fun z => c_135 ((lg_cmp_eq _ _).mpr z)), Bool.and_false, Bool.and_false, Bool.and_false, Bool.and_false]; done)
                · refine z_iconst (v := 1) g dX10_isRefused_108 (by decide) ?_
                  refine z_goto (tgt := 113) g dX10_isRefused_109 (by decide) ?_
                  refine z_istore g dX10_isRefused_113 (by rw [hN]; decide) ?_
                  refine z_iload g dX10_isRefused_115 rfl ?_
                  refine z_if_eq (tgt := 140) g dX10_isRefused_117 (by decide) (fun c_117 => absurd c_117 (by decide)) (fun _ => ?_)
                  refine z_aload_n g dX10_isRefused_120 rfl ?_
                  refine z_aload g dX10_isRefused_121 rfl ?_
                  refine z_iload_n g dX10_isRefused_123 rfl ?_
                  refine z_iload g dX10_isRefused_124 rfl ?_
                  refine z_aload_n g dX10_isRefused_126 rfl ?_
                  refine z_getI g fl_X10_76 (by assumption) (by decide) rfl dX10_isRefused_127 ?_
                  rw [show fI M x 10 = gi S 1 from qs.1]
                  refine z_callV g _ _ cv_X10_193 (k_form _ M hX0 hV j hj9 t d (gi S 1)) (by assumption) (by decide) rfl (by rw [hR]; decide) (by rw [hR]; decide) (by rw [hR]; decide) (Nat.le_of_ble_eq_true rfl) rfl dX10_isRefused_130 (fun _ _ h => False.elim h) (fun r_130 M_130 h_130 => ?_)
                  obtain ⟨rfl, rfl⟩ := h_130
                  refine z_lload_n g dX10_isRefused_133 rfl ?_
                  refine z_lcmp g dX10_isRefused_134 ?_
                  refine z_if_ne (tgt := 140) g dX10_isRefused_135 (by decide) (fun c_135 => ?_) (fun c_135 => ?_)
                  · refine z_iinc1 g dX10_isRefused_140 rfl (by rw [hN]; decide) ?_
                    refine z_goto (tgt := 34) g dX10_isRefused_143 (by decide) ?_
                    rw [nI_s]
                    refine z_to (ih (k - 1) (by omega) (j + 1) (by omega) ?_) ⟨rfl, rfl, rfl, rfl, rfl, rfl, rfl, trivial⟩
                    rw [refL, hn, Bool.false_or]
                    first
                      | (rw [show decide (nI j = nI f) = true from decide_eq_true (by
                          have e := Option.some.inj c_63
                          have e1 := (qf.2 j hj9).2.1
                          rw [e, (qf.2 f hf).2.1] at e1
                          rw [show j = f by omega])]; rfl)
                      | (rw [decide_eq_false c_72, Bool.false_and, Bool.and_false]; done)
                      | (rw [b2i_0.mp c_86, Bool.false_and, Bool.and_false, Bool.and_false]; done)
                      | (rw [decide_eq_false c_105, Bool.false_and, Bool.and_false, Bool.and_false, Bool.and_false]; done)
                      | (rw [decide_eq_false (fun z => c_135 ((lg_cmp_eq _ _).mpr z)), Bool.and_false, Bool.and_false, Bool.and_false, Bool.and_false]; done)
                  · refine z_iconst (v := 1) g dX10_isRefused_138 (by decide) ?_
                    exact z_iret g hrt (by decide) (by decide) (by decide) dX10_isRefused_139 ⟨by
        have hne : ¬ (nI j = nI f) := fun z => c_63 (by rw [(nI_eq (by omega) (by omega)).mp z])
        unfold refA
        rw [decide_eq_true hk5, decide_eq_false hw1, refL_of hj9 (by rw [decide_eq_false hne, decide_eq_true c_72, b2i_n0.mp c_86, decide_eq_true c_105, decide_eq_true ((lg_cmp_eq _ _).mp c_135)]; rfl)]; rfl, rfl⟩
      refine z_iconst (v := 0) g dX10_isRefused_31 (by decide) ?_
      refine z_istore g dX10_isRefused_32 (by rw [hN]; decide) ?_
      exact z_to (loop (cn S 2) 0 rfl rfl) ⟨rfl, rfl, rfl, rfl, rfl, rfl, rfl, trivial⟩
    · refine z_iconst (v := 0) g dX10_isRefused_29 (by decide) ?_
      exact z_iret g hrt (by decide) (by decide) (by decide) dX10_isRefused_30 ⟨by unfold refA; first | (rw [decide_eq_false c_20]; rfl) | (rw [decide_eq_true c_26, Bool.not_true, Bool.false_and, Bool.and_false]; rfl), rfl⟩
theorem dTg_sn {B : Nat → Nat → Nat} {S : Ms} {M : Mm} (h : qG B S M) {f : Nat} (hf : f < cn S 2) (t : Int32) : dTg M (B 4 f) t = if t = gA S 48 f ∨ t = gA S 49 f then t else if gA S 49 f ≤ gA S 48 f then gA S 49 f else gA S 48 f := by
  unfold dTg
  rw [(h f hf).1, (h f hf).2]
  by_cases c : t = gA S 48 f ∨ t = gA S 49 f
  · rw [if_pos c, if_pos c]
  · rw [if_neg c, if_neg c]
    by_cases c2 : gA S 49 f ≤ gA S 48 f
    · rw [if_pos c2]
      by_cases c3 : gA S 49 f < gA S 48 f
      · rw [if_pos c3]
      · rw [if_neg c3]; exact Int32.le_antisymm (Int32.not_lt.mp c3) c2
    · rw [if_neg c2, if_neg (fun z => c2 (Int32.le_of_lt z))]
set_option maxHeartbeats 4000000 in
set_option maxRecDepth 100000 in
theorem k_seen (E : Ev) {B : Nat → Nat → Nat} {x : Nat} {S : Ms} (M : Mm) (hX : RX B x S M) (hV : INV S) (f : Nat) (hf : f < cn S 2) (t : Int32) : CT E yX10_seenBy cX10_seenBy 6 (some .long) 6 0 0 [.ref x, .ref (B 4 f), .int t] M (ansL (sneA S f t) M) noX := by
  refine CT.of rfl (Nat.le_of_ble_eq_true rfl) (fun X g hrt hno hE hN hR hI => ?_)
  subst hE
  have hX0 := hX
  obtain ⟨qx, qs, qf, qd, qg, qh, qp, qw, qm, qe, ql, qq, qt, qr, qc, qo, qi⟩ := hX
  have k11 : kd M x % 1000 = 11 := by rw [qx.1]
  have k4 : kd M (B 4 f) % 1000 = 4 := qf.k4 hf
  obtain ⟨-, -, ⟨fk0, fk1⟩, ⟨g2, g3, g4, g5, g6⟩, ⟨k5a, k5b, -⟩, e5a, e5b, l170⟩ := qf.2 f hf
  have k5a1 : kd M (B 5 (2 * f)) % 1000 = 5 := by rw [k5a]; omega
  have k5b1 : kd M (B 5 (2 * f + 1)) % 1000 = 5 := by rw [k5b]; omega
  have k170 : kd M (B 170 f) % 1000 = 170 := qf.k170 hf
  refine z_aload_n g dX10_seenBy_0 rfl ?_
  refine z_callV g _ _ cv_X10_389 (c_isDsp _ M (B 4 f) k4) (by assumption) (by decide) rfl (by rw [hR]; decide) (by rw [hR]; decide) (by rw [hR]; decide) (Nat.le_of_ble_eq_true rfl) rfl dX10_seenBy_1 (fun _ _ h => False.elim h) (fun r_1 M_1 h_1 => ?_)
  obtain ⟨rfl, rfl⟩ := h_1
  rw [(qg f hf).1, (qg f hf).2]
  refine z_if_eq (tgt := 26) g dX10_seenBy_4 (by decide) (fun c_4 => ?_) (fun c_4 => ?_)
  · refine z_aload_n g dX10_seenBy_26 rfl ?_
    refine z_aload_n g dX10_seenBy_27 rfl ?_
    refine z_iload_n g dX10_seenBy_28 rfl ?_
    refine z_aload_n g dX10_seenBy_29 rfl ?_
    refine z_getI g fl_X10_76 (by assumption) (by decide) rfl dX10_seenBy_30 ?_
    rw [show fI M x 10 = gi S 1 from qs.1]
    refine z_aload_n g dX10_seenBy_33 rfl ?_
    refine z_getI g fl_X10_76 (by assumption) (by decide) rfl dX10_seenBy_34 ?_
    rw [show fI M x 10 = gi S 1 from qs.1]
    refine z_callV g _ _ cv_X10_193 (k_form _ M hX0 hV f hf t (gi S 1) (gi S 1)) (by assumption) (by decide) rfl (by rw [hR]; decide) (by rw [hR]; decide) (by rw [hR]; decide) (Nat.le_of_ble_eq_true rfl) rfl dX10_seenBy_37 (fun _ _ h => False.elim h) (fun r_37 M_37 h_37 => ?_)
    obtain ⟨rfl, rfl⟩ := h_37
    refine z_lstore_n g dX10_seenBy_40 (by rw [hN]; decide) ?_
    refine z_iconst (v := 0) g dX10_seenBy_41 (by decide) ?_
    refine z_istore g dX10_seenBy_42 (by rw [hN]; decide) ?_
    have hsame : gA S 48 f = gA S 49 f := by
      have h4 := b2i_0.mp c_4
      rw [Bool.not_eq_false', decide_eq_true_iff] at h4; exact h4
    have loop : ∀ (k j : Nat) (hk : k + j = 4), Z X M 0 0 44 [(0, .ref x), (1, .ref (B 4 f)), (2, .int t), (3, .long (snL S f (formA S (nI f) t (gi S 1) (gi S 1)) j)), (5, .int (nI j))] [] := by
      intro k
      induction k using Nat.strongRecOn with
      | _ k ih =>
        intro j hk
        refine z_iload g dX10_seenBy_44 rfl ?_
        refine z_iconst (v := 4) g dX10_seenBy_46 (by decide) ?_
        refine z_icmp_ge (tgt := 78) g dX10_seenBy_47 (by decide) (fun c_47 => ?_) (fun c_47 => ?_)
        · rw [show (4 : Int32) = nI 4 from rfl, nI_leI (by decide) (by omega)] at c_47
          refine z_lload_n g dX10_seenBy_78 rfl ?_
          exact z_lret g hrt (by decide) (by decide) dX10_seenBy_79 ⟨by unfold sneA; rw [if_pos hsame, show (4 : Nat) = j by omega], rfl⟩
        have h47 : j < 4 := by rw [show (4 : Int32) = nI 4 from rfl, nI_leI (by decide) (by omega)] at c_47; omega
        refine z_lload_n g dX10_seenBy_50 rfl ?_
        refine z_lconst (v := 0) g dX10_seenBy_51 (by decide) ?_
        refine z_lcmp g dX10_seenBy_52 ?_
        refine z_if_ne (tgt := 78) g dX10_seenBy_53 (by decide) (fun c_53 => ?_) (fun c_53 => ?_)
        · refine z_lload_n g dX10_seenBy_78 rfl ?_
          exact z_lret g hrt (by decide) (by decide) dX10_seenBy_79 ⟨by unfold sneA; rw [if_pos hsame, snL_stay (fun z => c_53 ((lg_cmp_eq _ _).mpr z)) 4 (by omega)], rfl⟩
        · refine z_aload_n g dX10_seenBy_56 rfl ?_
          refine z_aload_n g dX10_seenBy_57 rfl ?_
          refine z_iload g dX10_seenBy_58 rfl ?_
          refine z_aload_n g dX10_seenBy_60 rfl ?_
          refine z_getI g fl_X10_76 (by assumption) (by decide) rfl dX10_seenBy_61 ?_
          rw [show fI M x 10 = gi S 1 from qs.1]
          refine z_aload_n g dX10_seenBy_64 rfl ?_
          refine z_getI g fl_X10_76 (by assumption) (by decide) rfl dX10_seenBy_65 ?_
          rw [show fI M x 10 = gi S 1 from qs.1]
          refine z_callV g _ _ cv_X10_193 (k_form _ M hX0 hV f hf (nI j) (gi S 1) (gi S 1)) (by assumption) (by decide) rfl (by rw [hR]; decide) (by rw [hR]; decide) (by rw [hR]; decide) (Nat.le_of_ble_eq_true rfl) rfl dX10_seenBy_68 (fun _ _ h => False.elim h) (fun r_68 M_68 h_68 => ?_)
          obtain ⟨rfl, rfl⟩ := h_68
          refine z_lstore_n g dX10_seenBy_71 (by rw [hN]; decide) ?_
          refine z_iinc1 g dX10_seenBy_72 rfl (by rw [hN]; decide) ?_
          refine z_goto (tgt := 44) g dX10_seenBy_75 (by decide) ?_
          have hs := ih (k - 1) (by omega) (j + 1) (by omega)
          rw [snL, if_pos ((lg_cmp_eq _ _).mp c_53)] at hs
          rw [nI_s]
          exact z_to hs ⟨rfl, rfl, rfl, rfl, rfl, trivial⟩
    exact z_to (loop 4 0 rfl) ⟨rfl, rfl, rfl, rfl, rfl, trivial⟩
  · refine z_aload_n g dX10_seenBy_7 rfl ?_
    refine z_aload_n g dX10_seenBy_8 rfl ?_
    refine z_aload_n g dX10_seenBy_9 rfl ?_
    refine z_iload_n g dX10_seenBy_10 rfl ?_
    refine z_callV g _ _ cv_X10_392 (c_dTg _ M (B 4 f) k4 t) (by assumption) (by decide) rfl (by rw [hR]; decide) (by rw [hR]; decide) (by rw [hR]; decide) (Nat.le_of_ble_eq_true rfl) rfl dX10_seenBy_11 (fun _ _ h => False.elim h) (fun r_11 M_11 h_11 => ?_)
    obtain ⟨rfl, rfl⟩ := h_11
    rw [dTg_sn qg hf]
    refine z_aload_n g dX10_seenBy_14 rfl ?_
    refine z_getI g fl_X10_76 (by assumption) (by decide) rfl dX10_seenBy_15 ?_
    rw [show fI M x 10 = gi S 1 from qs.1]
    refine z_aload_n g dX10_seenBy_18 rfl ?_
    refine z_getI g fl_X10_76 (by assumption) (by decide) rfl dX10_seenBy_19 ?_
    rw [show fI M x 10 = gi S 1 from qs.1]
    refine z_callV g _ _ cv_X10_193 (k_form _ M hX0 hV f hf _ (gi S 1) (gi S 1)) (by assumption) (by decide) rfl (by rw [hR]; decide) (by rw [hR]; decide) (by rw [hR]; decide) (Nat.le_of_ble_eq_true rfl) rfl dX10_seenBy_22 (fun _ _ h => False.elim h) (fun r_22 M_22 h_22 => ?_)
    obtain ⟨rfl, rfl⟩ := h_22
    exact z_lret g hrt (by decide) (by decide) dX10_seenBy_25 ⟨by have h4 := b2i_n0.mp c_4; rw [Bool.not_eq_true', decide_eq_false_iff_not] at h4; unfold sneA; rw [if_neg h4], rfl⟩
