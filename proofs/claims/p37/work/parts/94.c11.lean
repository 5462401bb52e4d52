theorem more_e {u v : Nat} (hu : u < 2 ^ 31) (hv : v < 2 ^ 31) : decide (v < u) = !decide (nI u ≤ nI v) := by
  by_cases c : v < u
  · rw [decide_eq_true c, decide_eq_false (fun z => by rw [nI_leI hu hv] at z; omega)]; rfl
  · rw [decide_eq_false c, decide_eq_true (nI_le (by omega) hv)]; rfl
theorem pop_lt {x : Nat} (h : x < 2 ^ 9) : pop x < 2 ^ 31 := by
  have key : ∀ x, x < 2 ^ 9 → pop x < 2 ^ 31 := by decide +kernel
  exact key x h
theorem cnd_f {S : Ms} {j : Nat} (h : gi S 17 = 100) : cnD S j = false := by
  unfold cnD
  rw [h, decide_eq_true (Int32.le_refl (100 : Int32)), Bool.not_true, Bool.and_false, Bool.and_false, Bool.and_false, Bool.and_false]
theorem cnd_t {S : Ms} {j : Nat} (h : (decide (gA S 41 j = 0) && (!decide (gA S 40 j ≤ gi S 1) && (!decide (nI (pop (ca S 42 j ||| ca S 43 j)) < 5) && decide (gA S 44 j = 0)))) = true) (h2 : ¬ 100 ≤ gi S 17) : cnD S j = true := by
  unfold cnD
  rw [decide_eq_false h2, Bool.not_false, Bool.and_true]; exact h
set_option maxHeartbeats 4000000 in
set_option maxRecDepth 100000 in
theorem k_decide (E : Ev) {B : Nat → Nat → Nat} {x : Nat} {S : Ms} (M : Mm) (hX : RX B x S M) (hV : INV S) (f : Int32) : CT E yX10_decide cX10_decide 3 (some .int) 10 16 500 [.ref x, .int f] M (fun r M' => cDecide S f = 0 ∧ r = (some (.int (vDecide S f))) ∧ agr TC M M' ∧ ∃ B', RX B' x (sDecide S f) M') (fun E9 M' => M = M' ∧ ((cDecide S f = 1 ∧ E9 = IOE) ∨ (cDecide S f = 2 ∧ E9 = ISE))) := by
  refine CT.of rfl (Nat.le_of_ble_eq_true rfl) (fun X g hrt hno hE hN hR hI => ?_)
  subst hE
  have hX0 := hX
  obtain ⟨qx, qs, qf, qd, qg, qh, qp, qw, qm, qe, ql, qq, qt, qr, qc, qo, qi⟩ := hX
  have k11 : kd M x % 1000 = 11 := by rw [qx.1]
  have r2 : fR M x 2 = some (B 402 0) := (qx.2.1 2 (by decide)).1
  have kl2 : kd M (B 402 0) = 402 := (qx.2.1 2 (by decide)).2
  have l2 : LK M (B 402 0) 8 := qq.LK kl2 hV
  have m2 := l2.1
  have n2 : ln M (B 402 0) = cn S 36 := qq.1
  have b2 := l2.2.1
  rw [n2] at b2
  have hc := hV.1.2.2.1
  refine z_aload_n g dX10_decide_0 rfl ?_
  refine z_iload_n g dX10_decide_1 rfl ?_
  refine z_callV g _ _ cv_X10_202 (k_petAt _ M hX0 hV f) (by assumption) (by decide) rfl (by rw [hR]; decide) (by rw [hR]; decide) (by rw [hR]; decide) (Nat.le_of_ble_eq_true rfl) rfl dX10_decide_2 (fun E9 M9 h9 => by obtain ⟨h9, rfl, rfl⟩ := h9; have hF := (isP_ix hV f).trans h9; exact zx_out g hrt hno (by decide) (by decide) ⟨rfl, Or.inl ⟨by simp [cDecide, hF], rfl⟩⟩) (fun r_2 M_2 h_2 => ?_)
  obtain ⟨j, hj, rfl, rfl, rfl⟩ := h_2
  have hF : isP S (nI j) = true := isP_j hV hj
  have hcl : (nI j).toNatClampNeg = j := nI_clamp (by omega)
  obtain ⟨-, k8a, z0, z1, z2, z3, z4, z5, z6, z7, z8, z9⟩ := qq.2 j hj
  have k8 : kd M (elt M (B 402 0) j) % 1000 = 8 := by rw [k8a]; omega
  refine z_astore_n g dX10_decide_5 (by rw [hN]; decide) ?_
  obtain ⟨hF37, hF37b, -, -, -, ⟨p1, p1b⟩, ⟨p2, p2b⟩, ⟨p3, p3b⟩, ⟨p4, p4b⟩, pD, pN⟩ := hV.2.2.2.2.2.2.1 j hj
  have h37 : gA S 37 j = nI (ca S 37 j) := hF37.1
  have hx8 : x ≠ elt M (B 402 0) j := fun z => by have := qx.1; rw [z, k8a] at this; omega
  refine z_aload_n g dX10_decide_6 rfl ?_
  refine z_aload_n g dX10_decide_7 rfl ?_
  refine z_getI g fl_X10_76 (by assumption) (by decide) rfl dX10_decide_8 ?_
  rw [show fI M x 10 = gi S 1 from qs.1]
  refine z_callV g _ _ cv_X10_227 (c_canD _ M (elt M (B 402 0) j) k8 (gi S 1) (z5.trans p2) (z6.trans p3) (by omega) (by omega)) (by assumption) (by decide) rfl (by rw [hR]; decide) (by rw [hR]; decide) (by rw [hR]; decide) (Nat.le_of_ble_eq_true rfl) rfl dX10_decide_11 (fun _ _ h => False.elim h) (fun r_11 M_11 h_11 => ?_)
  obtain ⟨rfl, rfl⟩ := h_11
  rw [z4, z3, z7]
  refine z_if_eq (tgt := 30) g dX10_decide_14 (by decide) (fun c_14 => ?_) (fun c_14 => ?_)
  · have hcd : cnD S j = false := by have h9 := b2i_0.mp c_14; unfold cnD; cases h1 : decide (gA S 41 j = 0) <;> cases h2 : (!decide (gA S 40 j ≤ gi S 1)) <;> cases h3 : (!decide (nI (pop (ca S 42 j ||| ca S 43 j)) < 5)) <;> cases h4 : decide (gA S 44 j = 0) <;> first | rfl | (rw [h1, h2, h3, h4] at h9; cases h9)
    refine z_iconst (v := 0) g dX10_decide_30 (by decide) ?_
    exact z_callS g _ _ cs_X10_71 (c_needSt _ M false) rfl (by rw [hR]; decide) (by rw [hR]; decide) (by rw [hR]; decide) (Nat.le_of_ble_eq_true rfl) rfl dX10_decide_31 (fun E9 M9 h9 => by obtain ⟨-, rfl, rfl⟩ := h9; exact zx_out g hrt hno (by decide) (by decide) ⟨rfl, Or.inr (⟨by simp [cDecide, hF, hcl, hcd], rfl⟩)⟩) (fun _ _ h => by cases h.1)
  · have hcd : (decide (gA S 41 j = 0) && (!decide (gA S 40 j ≤ gi S 1) && (!decide (nI (pop (ca S 42 j ||| ca S 43 j)) < 5) && decide (gA S 44 j = 0)))) = true := b2i_n0.mp c_14
    refine z_aload_n g dX10_decide_17 rfl ?_
    refine z_getI g fl_X10_151 (by assumption) (by decide) rfl dX10_decide_18 ?_
    rw [show fI M x 11 = gi S 17 from qs.2.1]
    refine z_bipush (v := 100) g dX10_decide_21 (by decide) ?_
    refine z_icmp_ge (tgt := 30) g dX10_decide_23 (by decide) (fun c_23 => ?_) (fun c_23 => ?_)
    · have hcn : cnD S j = false := cnd_f (cnt_ge (N := 100) hc.1 hc.2 (by decide) c_23)
      refine z_iconst (v := 0) g dX10_decide_30 (by decide) ?_
      exact z_callS g _ _ cs_X10_71 (c_needSt _ M false) rfl (by rw [hR]; decide) (by rw [hR]; decide) (by rw [hR]; decide) (Nat.le_of_ble_eq_true rfl) rfl dX10_decide_31 (fun E9 M9 h9 => by obtain ⟨-, rfl, rfl⟩ := h9; exact zx_out g hrt hno (by decide) (by decide) ⟨rfl, Or.inr (⟨by simp [cDecide, hF, hcl, hcd, hcn], rfl⟩)⟩) (fun _ _ h => by cases h.1)
    · have hcn : cnD S j = true := cnd_t hcd c_23
      have hlt := (cnt_lt (N := 100) hc.1 hc.2 (by decide) c_23).2
      refine z_iconst (v := 1) g dX10_decide_26 (by decide) ?_
      refine z_goto (tgt := 31) g dX10_decide_27 (by decide) ?_
      refine z_callS g _ _ cs_X10_71 (c_needSt _ M true) rfl (by rw [hR]; decide) (by rw [hR]; decide) (by rw [hR]; decide) (Nat.le_of_ble_eq_true rfl) rfl dX10_decide_31 (fun _ _ h => by cases h.1) (fun r_31 M_31 h_31 => ?_)
      obtain ⟨-, rfl, rfl⟩ := h_31
      refine z_aload_n g dX10_decide_34 rfl ?_
      refine z_aload_n g dX10_decide_35 rfl ?_
      refine z_getI g fl_X10_76 (by assumption) (by decide) rfl dX10_decide_36 ?_
      rw [show fI M x 10 = gi S 1 from qs.1]
      refine z_putI g fp_X10_230 k8 (by decide) rfl (fun h => nomatch h) dX10_decide_39 ?_
      refine z_aload_n g dX10_decide_42 rfl ?_
      have ma5 : fI (sI M (elt M (B 402 0) j) 8 (gi S 1)) (elt M (B 402 0) j) 5 = nI (ca S 42 j) := (fI_k (by decide)).trans (z5.trans p2)
      have ma6 : fI (sI M (elt M (B 402 0) j) 8 (gi S 1)) (elt M (B 402 0) j) 6 = nI (ca S 43 j) := (fI_k (by decide)).trans (z6.trans p3)
      have hXA : RX B x S M := hX0
      refine z_callV g _ _ cv_X10_233 (c_more _ (sI M (elt M (B 402 0) j) 8 (gi S 1)) (elt M (B 402 0) j) k8 ma5 ma6 (by omega) (by omega)) k8 (by decide) rfl (by rw [hR]; decide) (by rw [hR]; decide) (by rw [hR]; decide) (Nat.le_of_ble_eq_true rfl) rfl dX10_decide_43 (fun _ _ h => False.elim h) (fun r_43 M_43 h_43 => ?_)
      obtain ⟨rfl, rfl⟩ := h_43
      rw [more_e (pop_lt (by omega)) (pop_lt (by omega))]
      refine z_if_eq (tgt := 132) g dX10_decide_46 (by decide) (fun c_46 => ?_) (fun c_46 => ?_)
      · have hnt : takA S j = false := by unfold takA; rw [b2i_0.mp c_46, Bool.false_and]
        refine z_aload_n g dX10_decide_132 rfl ?_
        refine z_iconst (v := 2) g dX10_decide_133 (by decide) ?_
        refine z_putI g fp_X10_209 k8 (by decide) rfl (fun h => nomatch h) dX10_decide_134 ?_
        refine z_aload_n g dX10_decide_137 rfl ?_
        refine z_getI g fl_X10_209 k8 (by decide) rfl dX10_decide_138 ?_
        rw [fI_s]
        exact z_iret g hrt rfl (by decide) (by decide) dX10_decide_141 ⟨by simp [cDecide, hF, hcl, hcd, hcn, hcn], by unfold vDecide; rw [hcl, if_neg (by rw [hnt]; decide)], (RX_rej hX0 hV hj).2, B, by unfold sDecide; rw [hcl, if_neg (by rw [hnt]; decide)]; exact (RX_rej hX0 hV hj).1⟩
      · have hqA : agr (fun c k => c = 8 ∧ k = 8) M (sI M (elt M (B 402 0) j) 8 (gi S 1)) := agr.sI ⟨k8, rfl⟩
        have fAk : ∀ k, k ≠ 8 → fI (sI M (elt M (B 402 0) j) 8 (gi S 1)) (elt M (B 402 0) j) k = fI M (elt M (B 402 0) j) k := fun k hk => fI_k hk
        have hVr : INV (wA (wi S 0 0) 45 j (gi S 1)) := INV_d45 (INV_wi0 0 hV)
        have hXr := (RX_d8 hX0 hV (v := gi S 1) hj).1
        refine z_aload_n g dX10_decide_49 rfl ?_
        refine z_aload_n g dX10_decide_50 rfl ?_
        refine z_getR g fl_X10_236 k8 (by decide) rfl z0 dX10_decide_51 ?_
        refine z_aload_n g dX10_decide_54 rfl ?_
        refine z_getI g fl_X10_240 k8 (by decide) rfl dX10_decide_55 ?_
        rw [fAk 1 (by decide), z1]
        refine z_aload_n g dX10_decide_58 rfl ?_
        refine z_getL g fl_X10_243 k8 (by decide) rfl dX10_decide_59 ?_
        rw [show fL (sI M (elt M (B 402 0) j) 8 (gi S 1)) (elt M (B 402 0) j) 2 = gL S 39 j from z2]
        refine z_aload_n g dX10_decide_62 rfl ?_
        refine z_getI g fl_X10_247 k8 (by decide) rfl dX10_decide_63 ?_
        rw [fAk 3 (by decide), z3]
        refine z_callV g _ _ cv_X10_154 (k_ref _ (sI M (elt M (B 402 0) j) 8 (gi S 1)) hXr hVr (ca S 37 j) hF37b (gA S 38 j) (gL S 39 j) (gA S 40 j)) k11 (by decide) rfl (by rw [hR]; decide) (by rw [hR]; decide) (by rw [hR]; decide) (Nat.le_of_ble_eq_true rfl) rfl dX10_decide_66 (fun _ _ h => False.elim h) (fun r_66 M_66 h_66 => ?_)
        obtain ⟨rfl, rfl⟩ := h_66
        rw [refA_45]
        refine z_if_ne (tgt := 132) g dX10_decide_69 (by decide) (fun c_69 => ?_) (fun c_69 => ?_)
        · have hnt : takA S j = false := by unfold takA; rw [b2i_n0.mp c_69, Bool.not_true, Bool.and_false]
          refine z_aload_n g dX10_decide_132 rfl ?_
          refine z_iconst (v := 2) g dX10_decide_133 (by decide) ?_
          refine z_putI g fp_X10_209 k8 (by decide) rfl (fun h => nomatch h) dX10_decide_134 ?_
          refine z_aload_n g dX10_decide_137 rfl ?_
          refine z_getI g fl_X10_209 k8 (by decide) rfl dX10_decide_138 ?_
          rw [fI_s]
          exact z_iret g hrt rfl (by decide) (by decide) dX10_decide_141 ⟨by simp [cDecide, hF, hcl, hcd, hcn, hcn], by unfold vDecide; rw [hcl, if_neg (by rw [hnt]; decide)], (RX_rej hX0 hV hj).2, B, by unfold sDecide; rw [hcl, if_neg (by rw [hnt]; decide)]; exact (RX_rej hX0 hV hj).1⟩
        · have htk : takA S j = true := by unfold takA; rw [b2i_n0.mp c_46, b2i_0.mp c_69]; rfl
          refine z_aload_n g dX10_decide_72 rfl ?_
          refine z_iconst (v := 1) g dX10_decide_73 (by decide) ?_
          refine z_putI g fp_X10_209 k8 (by decide) rfl (fun h => nomatch h) dX10_decide_74 ?_
          refine z_aload_n g dX10_decide_77 rfl ?_
          have hxk : kd M x ≠ 0 := by rw [qx.1]; decide
          have kP0 : kd M (elt M (B 402 0) j) ≠ 0 := by rw [k8a]; omega
          have fPk : ∀ k, k ≠ 8 → k ≠ 4 → fI (sI (sI M (elt M (B 402 0) j) 8 (gi S 1)) (elt M (B 402 0) j) 4 1) (elt M (B 402 0) j) k = fI M (elt M (B 402 0) j) k := fun k h1 h2 => (fI_k h2).trans (fI_k h1)
          refine z_new g (7 + 1000 * cn S 17) nw_X10_161 (by omega) (by decide) (by rw [hR]; decide) (by rw [hR]; decide) dX10_decide_78 (fun a ha => ?_)
          have ha : kd M a = 0 := ha
          have hxa : x ≠ a := fun z => hxk (by rw [z]; exact ha)
          have hPa : (elt M (B 402 0) j) ≠ a := fun z => kP0 (by rw [z]; exact ha)
          have hw := nwc_nm (M := (sI (sI M (elt M (B 402 0) j) 8 (gi S 1)) (elt M (B 402 0) j) 4 1)) (a := a) (ke := 7 + 1000 * cn S 17) (t := gA S 38 j) (d := gA S 40 j) (n := gi S 1) (w := gL S 39 j) ha
          have k8n : kd (al (sI (sI M (elt M (B 402 0) j) 8 (gi S 1)) (elt M (B 402 0) j) 4 1) a (7 + 1000 * cn S 17) 0) (elt M (B 402 0) j) % 1000 = 8 := by rw [kd_al, if_neg hPa]; exact k8
          refine z_dup g dX10_decide_81 rfl ?_
          refine z_aload_n g dX10_decide_82 rfl ?_
          refine z_getI g fl_X10_240 k8n (by decide) rfl dX10_decide_83 ?_
          rw [show fI (al (sI (sI M (elt M (B 402 0) j) 8 (gi S 1)) (elt M (B 402 0) j) 4 1) a (7 + 1000 * cn S 17) 0) (elt M (B 402 0) j) 1 = gA S 38 j from by rw [fI_al, if_neg hPa, fPk 1 (by decide) (by decide)]; exact z1]
          refine z_aload_n g dX10_decide_86 rfl ?_
          refine z_getL g fl_X10_243 k8n (by decide) rfl dX10_decide_87 ?_
          rw [show fL (al (sI (sI M (elt M (B 402 0) j) 8 (gi S 1)) (elt M (B 402 0) j) 4 1) a (7 + 1000 * cn S 17) 0) (elt M (B 402 0) j) 2 = gL S 39 j from by rw [fL_al, if_neg hPa]; exact z2]
          refine z_aload_n g dX10_decide_90 rfl ?_
          refine z_getI g fl_X10_247 k8n (by decide) rfl dX10_decide_91 ?_
          rw [show fI (al (sI (sI M (elt M (B 402 0) j) 8 (gi S 1)) (elt M (B 402 0) j) 4 1) a (7 + 1000 * cn S 17) 0) (elt M (B 402 0) j) 3 = gA S 40 j from by rw [fI_al, if_neg hPa, fPk 3 (by decide) (by decide)]; exact z3]
          refine z_aload_n g dX10_decide_94 rfl ?_
          refine z_getI g fl_X10_76 (by rw [kd_al, if_neg hxa]; exact k11) (by decide) rfl dX10_decide_95 ?_
          rw [show fI (al (sI (sI M (elt M (B 402 0) j) 8 (gi S 1)) (elt M (B 402 0) j) 4 1) a (7 + 1000 * cn S 17) 0) x 10 = gi S 1 from by rw [fI_al, if_neg hxa]; exact (fI_o hx8).trans ((fI_o hx8).trans qs.1)]
          refine z_callI g _ _ ci_X10_163 (c_X6i _ _ a (by rw [kd_al, if_pos rfl]; omega) (gA S 38 j) (gL S 39 j) (gA S 40 j) (gi S 1)) rfl (by rw [hR]; decide) (by rw [hR]; decide) (by rw [hR]; decide) (Nat.le_of_ble_eq_true rfl) rfl dX10_decide_98 (fun _ _ h => False.elim h) (fun r_98 M_98 h_98 => ?_)
          obtain ⟨rfl, rfl⟩ := h_98
          have k8m : kd (nmM (sI (sI M (elt M (B 402 0) j) 8 (gi S 1)) (elt M (B 402 0) j) 4 1) a (7 + 1000 * cn S 17) (gA S 38 j) (gL S 39 j) (gA S 40 j) (gi S 1)) (elt M (B 402 0) j) % 1000 = 8 := by rw [nwc_kd hw kP0]; exact k8
          refine z_putR g fp_X10_250 rfl k8m (by decide) rfl (fun h => nomatch h) dX10_decide_101 ?_
          refine z_aload_n g dX10_decide_104 rfl ?_
          refine z_getR g fl_X10_236 k8m (by decide) rfl (show fR (sR (nmM (sI (sI M (elt M (B 402 0) j) 8 (gi S 1)) (elt M (B 402 0) j) 4 1) a (7 + 1000 * cn S 17) (gA S 38 j) (gL S 39 j) (gA S 40 j) (gi S 1)) (elt M (B 402 0) j) 9 (some a)) (elt M (B 402 0) j) 0 = some (B 4 (ca S 37 j)) from by rw [fR_sR, if_neg (fun z => by cases z.2), nwc_fR hw kP0]; exact z0) dX10_decide_105 ?_
          have k4f : kd M (B 4 (ca S 37 j)) % 1000 = 4 := qf.k4 hF37b
          have k4f0 : kd M (B 4 (ca S 37 j)) ≠ 0 := fun z => by rw [z] at k4f; cases k4f
          have h48 : B 4 (ca S 37 j) ≠ (elt M (B 402 0) j) := fun z => by rw [z, k8] at k4f; cases k4f
          have g4f : fR M (B 4 (ca S 37 j)) 4 = some (B 410 (ca S 37 j)) := (qf.2 _ hF37b).2.2.2.1.2.2.1
          refine z_getR g fl_X10_158 (by show kd (nmM (sI (sI M (elt M (B 402 0) j) 8 (gi S 1)) (elt M (B 402 0) j) 4 1) a (7 + 1000 * cn S 17) (gA S 38 j) (gL S 39 j) (gA S 40 j) (gi S 1)) (B 4 (ca S 37 j)) % 1000 = 4; rw [nwc_kd hw k4f0]; exact k4f) (by decide) rfl (show fR (sR (nmM (sI (sI M (elt M (B 402 0) j) 8 (gi S 1)) (elt M (B 402 0) j) 4 1) a (7 + 1000 * cn S 17) (gA S 38 j) (gL S 39 j) (gA S 40 j) (gi S 1)) (elt M (B 402 0) j) 9 (some a)) (B 4 (ca S 37 j)) 4 = some (B 410 (ca S 37 j)) from by rw [fR_sR, if_neg (fun z => h48 z.1), nwc_fR hw k4f0]; exact g4f) dX10_decide_108 ?_
          refine z_aload_n g dX10_decide_111 rfl ?_
          refine z_getR g fl_X10_250 k8m (by decide) rfl (show fR (sR (nmM (sI (sI M (elt M (B 402 0) j) 8 (gi S 1)) (elt M (B 402 0) j) 4 1) a (7 + 1000 * cn S 17) (gA S 38 j) (gL S 39 j) (gA S 40 j) (gi S 1)) (elt M (B 402 0) j) 9 (some a)) (elt M (B 402 0) j) 9 = some a from by rw [fR_sR, if_pos ⟨rfl, rfl⟩]) dX10_decide_112 ?_
          have LK0 : LK (sI (sI M (elt M (B 402 0) j) 8 (gi S 1)) (elt M (B 402 0) j) 4 1) (B 410 (ca S 37 j)) 7 := qm.LK qf hV hF37b
          have LK1 := LK_nwc hw LK0 (by decide)
          have k410 : kd M (B 410 (ca S 37 j)) ≠ 0 := fun z => by have := qf.k410 hF37b; rw [z] at this; cases this
          have h4108 : B 410 (ca S 37 j) ≠ (elt M (B 402 0) j) := fun z => by have := qf.k410 hF37b; rw [z, k8] at this; cases this
          have LK2 : LK (sR (nmM (sI (sI M (elt M (B 402 0) j) 8 (gi S 1)) (elt M (B 402 0) j) 4 1) a (7 + 1000 * cn S 17) (gA S 38 j) (gL S 39 j) (gA S 40 j) (gi S 1)) (elt M (B 402 0) j) 9 (some a)) (B 410 (ca S 37 j)) 7 := LK_ext LK1 rfl rfl (fun i _ => by rw [fR_sR, if_neg (fun z => h4108 z.1)]) (fun i hi => (LK1.2.2 i hi).2)
          have hl100 : ln (sR (nmM (sI (sI M (elt M (B 402 0) j) 8 (gi S 1)) (elt M (B 402 0) j) 4 1) a (7 + 1000 * cn S 17) (gA S 38 j) (gL S 39 j) (gA S 40 j) (gi S 1)) (elt M (B 402 0) j) 9 (some a)) (B 410 (ca S 37 j)) < 100 := by
            show ln (nmM (sI (sI M (elt M (B 402 0) j) 8 (gi S 1)) (elt M (B 402 0) j) 4 1) a (7 + 1000 * cn S 17) (gA S 38 j) (gL S 39 j) (gA S 40 j) (gi S 1)) (B 410 (ca S 37 j)) < 100
            rw [nwc_ln hw k410]
            show ln M (B 410 (ca S 37 j)) < 100
            rw [qm.1 _ hF37b]; have := ctn_le (ofN S (ca S 37 j)) (cn S 17); omega
          refine z_callL g _ _ cv_X10_55 rfl (c_add2 _ (sR (nmM (sI (sI M (elt M (B 402 0) j) 8 (gi S 1)) (elt M (B 402 0) j) 4 1) a (7 + 1000 * cn S 17) (gA S 38 j) (gL S 39 j) (gA S 40 j) (gi S 1)) (elt M (B 402 0) j) 9 (some a)) (B 410 (ca S 37 j)) a LK2 (by decide) (by decide) hl100 (by show kd (nmM (sI (sI M (elt M (B 402 0) j) 8 (gi S 1)) (elt M (B 402 0) j) 4 1) a (7 + 1000 * cn S 17) (gA S 38 j) (gL S 39 j) (gA S 40 j) (gi S 1)) a % 1000 = 7; rw [nm_new.1]; omega)) LK2.1 rfl (by rw [hR]; decide) (by rw [hR]; decide) (by rw [hR]; decide) (Nat.le_of_ble_eq_true rfl) rfl dX10_decide_115 (fun _ _ h => False.elim h) (fun r_115 M_115 h_115 => ?_)
          obtain ⟨rfl, rfl⟩ := h_115
          have kx2 : kd (psh (sR (nmM (sI (sI M (elt M (B 402 0) j) 8 (gi S 1)) (elt M (B 402 0) j) 4 1) a (7 + 1000 * cn S 17) (gA S 38 j) (gL S 39 j) (gA S 40 j) (gi S 1)) (elt M (B 402 0) j) 9 (some a)) (B 410 (ca S 37 j)) a) x % 1000 = 11 := by
            show kd (nmM (sI (sI M (elt M (B 402 0) j) 8 (gi S 1)) (elt M (B 402 0) j) 4 1) a (7 + 1000 * cn S 17) (gA S 38 j) (gL S 39 j) (gA S 40 j) (gi S 1)) x % 1000 = 11
            rw [nwc_kd hw hxk]; exact k11
          have fx2 : fI (psh (sR (nmM (sI (sI M (elt M (B 402 0) j) 8 (gi S 1)) (elt M (B 402 0) j) 4 1) a (7 + 1000 * cn S 17) (gA S 38 j) (gL S 39 j) (gA S 40 j) (gi S 1)) (elt M (B 402 0) j) 9 (some a)) (B 410 (ca S 37 j)) a) x 11 = gi S 17 := (congrFun (hw.2 x hxk).2.1 11).symm.trans ((fI_o hx8).trans ((fI_o hx8).trans qs.2.1))
          have kP2 : kd (sI (psh (sR (nmM (sI (sI M (elt M (B 402 0) j) 8 (gi S 1)) (elt M (B 402 0) j) 4 1) a (7 + 1000 * cn S 17) (gA S 38 j) (gL S 39 j) (gA S 40 j) (gi S 1)) (elt M (B 402 0) j) 9 (some a)) (B 410 (ca S 37 j)) a) x 11 (gi S 17 + 1)) (elt M (B 402 0) j) % 1000 = 8 := k8m
          refine z_pop g dX10_decide_118 rfl ?_
          refine z_aload_n g dX10_decide_119 rfl ?_
          refine z_dup g dX10_decide_120 rfl ?_
          refine z_getI g fl_X10_151 kx2 (by decide) rfl dX10_decide_121 ?_
          rw [fx2]
          refine z_iconst (v := 1) g dX10_decide_124 (by decide) ?_
          refine z_iadd g dX10_decide_125 ?_
          refine z_putI g fp_X10_151 kx2 (by decide) rfl (fun h => nomatch h) dX10_decide_126 ?_
          refine z_goto (tgt := 137) g dX10_decide_129 (by decide) ?_
          refine z_aload_n g dX10_decide_137 rfl ?_
          refine z_getI g fl_X10_209 kP2 (by decide) rfl dX10_decide_138 ?_
          rw [show fI (sI (psh (sR (nmM (sI (sI M (elt M (B 402 0) j) 8 (gi S 1)) (elt M (B 402 0) j) 4 1) a (7 + 1000 * cn S 17) (gA S 38 j) (gL S 39 j) (gA S 40 j) (gi S 1)) (elt M (B 402 0) j) 9 (some a)) (B 410 (ca S 37 j)) a) x 11 (gi S 17 + 1)) (elt M (B 402 0) j) 4 = 1 from (fI_o hx8.symm).trans ((congrFun (hw.2 _ kP0).2.1 4).symm.trans fI_s)]
          exact z_iret g hrt rfl (by decide) (by decide) dX10_decide_141 ⟨by simp [cDecide, hF, hcl, hcd, hcn, hcn], by unfold vDecide; rw [hcl, if_pos htk], (RX_dec hX0 hV hj hlt ha).2, up2 B 7 (cn S 17) a, by unfold sDecide; rw [hcl, if_pos htk]; exact (RX_dec hX0 hV hj hlt ha).1⟩
theorem sbI_none {o : Option Nat} (h : sbI o = -1) (hb : ∀ q, o = some q → q < 4) : o = none := by
  cases o with
  | none => rfl
  | some q => exact absurd h (nI_m1n (by have := hb q rfl; omega))
theorem fz {a : Int64} : lg_cmp a 0 = 0 ↔ a = 0 := lg_cmp_eq a 0
theorem shL_0 {S : Ms} {f t : Nat} {d : Int32} (h : formA S (nI f) (nI t) d (gi S 1) = 0) : shL S f d (t + 1) = shL S f d t := by rw [shL, if_pos h]
theorem shL_1 {S : Ms} {f t : Nat} {d : Int32} (h : ¬ formA S (nI f) (nI t) d (gi S 1) = 0) : (shL S f d (t + 1)).1 = (shL S f d t).1 ||| (if gA S 47 (4 * f + t) < 20 then (0 : Int32) else (1 : Int32) <<< (nI t &&& 31)) := by rw [shL, if_neg h]
theorem shL_n {S : Ms} {f t : Nat} {d : Int32} (h : ¬ formA S (nI f) (nI t) d (gi S 1) = 0) (h2 : (shL S f d t).2 = none) : (shL S f d (t + 1)).2 = some t := by rw [shL, if_neg h]; dsimp only; rw [h2]
theorem shL_s {S : Ms} {f t q : Nat} {d : Int32} (h : ¬ formA S (nI f) (nI t) d (gi S 1) = 0) (h2 : (shL S f d t).2 = some q) : (shL S f d (t + 1)).2 = if gA S 47 (4 * f + t) ≤ gA S 47 (4 * f + q) then some q else some t := by rw [shL, if_neg h]; dsimp only; rw [h2]
theorem or_0 (x : Int32) : x ||| 0 = x := by
  apply Int32.toBitVec_inj.mp
  exact BitVec.or_zero
set_option maxHeartbeats 4000000 in
set_option maxRecDepth 100000 in
theorem k_shown (E : Ev) {B : Nat → Nat → Nat} {x : Nat} {S : Ms} (M : Mm) (hX : RX B x S M) (hV : INV S) (f d : Int32) : CT E yX10_shown cX10_shown 7 (some .int) 10 16 500 [.ref x, .int f, .int d] M (fun r M' => cShown S f d = 0 ∧ r = (some (.int (vShown S f d))) ∧ agr TC M M' ∧ ∃ B', RX B' x (sShown S f d) M') (fun E9 M' => M = M' ∧ ((cShown S f d = 1 ∧ E9 = IOE) ∨ (cShown S f d = 2 ∧ E9 = IAE))) := by
  refine CT.of rfl (Nat.le_of_ble_eq_true rfl) (fun X g hrt hno hE hN hR hI => ?_)
  subst hE
  have hX0 := hX
  obtain ⟨qx, qs, qf, qd, qg, qh, qp, qw, qm, qe, ql, qq, qt, qr, qc, qo, qi⟩ := hX
  have k11 : kd M x % 1000 = 11 := by rw [qx.1]
  refine z_aload_n g dX10_shown_0 rfl ?_
  refine z_iload_n g dX10_shown_1 rfl ?_
  refine z_callV g _ _ cv_X10_96 (k_feaAt _ M hX0 hV f) (by assumption) (by decide) rfl (by rw [hR]; decide) (by rw [hR]; decide) (by rw [hR]; decide) (Nat.le_of_ble_eq_true rfl) rfl dX10_shown_2 (fun E9 M9 h9 => by obtain ⟨h9, rfl, rfl⟩ := h9; have hF := (isF_ix hV f).trans h9; exact zx_out g hrt hno (by decide) (by decide) ⟨rfl, Or.inl ⟨by simp [cShown, hF], rfl⟩⟩) (fun r_2 M_2 h_2 => ?_)
  obtain ⟨j, hj, rfl, rfl, rfl⟩ := h_2
  have hF : isF S (nI j) = true := isF_j hV hj
  have hcl : (nI j).toNatClampNeg = j := nI_clamp (by have := hV.c2; omega)
  have k4 : kd M (B 4 j) % 1000 = 4 := qf.k4 hj
  obtain ⟨-, -, ⟨fk0, fk1⟩, ⟨g2, g3, g4, g5, g6⟩, ⟨k5a, k5b, -⟩, e5a, e5b, l170⟩ := qf.2 j hj
  have k5a1 : kd M (B 5 (2 * j)) % 1000 = 5 := by rw [k5a]; omega
  have k5b1 : kd M (B 5 (2 * j + 1)) % 1000 = 5 := by rw [k5b]; omega
  have k170 : kd M (B 170 j) % 1000 = 170 := qf.k170 hj
  refine z_astore_n g dX10_shown_5 (by rw [hN]; decide) ?_
  refine z_iload_n g dX10_shown_6 rfl ?_
  refine z_callS g _ _ cs_X10_100 (c_isDay _ M d) rfl (by rw [hR]; decide) (by rw [hR]; decide) (by rw [hR]; decide) (Nat.le_of_ble_eq_true rfl) rfl dX10_shown_7 (fun _ _ h => False.elim h) (fun r_7 M_7 h_7 => ?_)
  obtain ⟨rfl, rfl⟩ := h_7
  rw [show dayB d = inB d 0 9999 from rfl]
  refine z_callS g _ _ cs_X10_63 (c_needArg _ M (inB d 0 9999)) rfl (by rw [hR]; decide) (by rw [hR]; decide) (by rw [hR]; decide) (Nat.le_of_ble_eq_true rfl) rfl dX10_shown_10 (fun E9 M9 h9 => by obtain ⟨h9, rfl, rfl⟩ := h9; exact zx_out g hrt hno (by decide) (by decide) ⟨rfl, Or.inr (⟨by simp [cShown, hF, hcl, h9], rfl⟩)⟩) (fun r_10 M_10 h_10 => ?_)
  obtain ⟨hb_10, rfl, rfl⟩ := h_10
  have hc0 : cShown S (nI j) d = 0 := by simp [cShown, hF, hcl, hb_10]
  have loop : ∀ (k t : Nat) (hk : k + t = 4), Z X M 2 12 22 [(0, .ref x), (2, .int d), (3, .ref (B 4 j)), (4, .int (shL S j d t).1), (5, .int (sbI (shL S j d t).2)), (6, .int (nI t))] [] := by
    intro k
    induction k using Nat.strongRecOn with
    | _ k ih =>
      intro t hk
      refine z_iload g dX10_shown_22 rfl ?_
      refine z_iconst (v := 4) g dX10_shown_24 (by decide) ?_
      refine z_icmp_ge (tgt := 96) g dX10_shown_25 (by decide) (fun c_25 => ?_) (fun c_25 => ?_)
      · rw [show (4 : Int32) = nI 4 from rfl, nI_leI (by decide) (by omega)] at c_25
        have ht4 : t = 4 := by omega
        subst ht4
        refine z_iload g dX10_shown_96 rfl ?_
        refine z_if_ne (tgt := 107) g dX10_shown_98 (by decide) (fun c_98 => ?_) (fun c_98 => ?_)
        · refine z_iload g dX10_shown_107 rfl ?_
          exact z_iret g hrt rfl (by decide) (by decide) dX10_shown_109 ⟨hc0, by unfold vShown; rw [hcl, if_pos c_98], agr.rf, B, RX_wi0 0 hX0⟩
        refine z_iload g dX10_shown_101 rfl ?_
        refine z_iconst (v := (-1)) g dX10_shown_103 (by decide) ?_
        refine z_icmp_ne (tgt := 110) g dX10_shown_104 (by decide) (fun c_104 => ?_) (fun c_104 => ?_)
        rotate_left
        · refine z_iload g dX10_shown_107 rfl ?_
          exact z_iret g hrt rfl (by decide) (by decide) dX10_shown_109 ⟨hc0, by unfold vShown; rw [hcl, if_neg (fun z => z c_98), sbI_none c_104 (fun q hq => shL_lt hq), c_98], agr.rf, B, RX_wi0 0 hX0⟩
        rcases ho : (shL S j d 4).2 with _ | q
        · rw [ho] at c_104; exact absurd rfl c_104
        refine z_iconst (v := 1) g dX10_shown_110 (by decide) ?_
        refine z_iload g dX10_shown_111 rfl ?_
        refine z_ishl g dX10_shown_113 ?_
        exact z_iret g hrt rfl (by decide) (by decide) dX10_shown_114 ⟨hc0, by unfold vShown; rw [hcl, if_neg (fun z => z c_98), ho]; rfl, agr.rf, B, RX_wi0 0 hX0⟩
      have h25 : t < 4 := by rw [show (4 : Int32) = nI 4 from rfl, nI_leI (by decide) (by omega)] at c_25; omega
      have hcB : ∀ q, (shL S j d t).2 = some q → q < 4 := fun q hq => by have := shL_lt hq; omega
      refine z_aload_n g dX10_shown_28 rfl ?_
      refine z_aload_n g dX10_shown_29 rfl ?_
      refine z_iload g dX10_shown_30 rfl ?_
      refine z_iload_n g dX10_shown_32 rfl ?_
      refine z_aload_n g dX10_shown_33 rfl ?_
      refine z_getI g fl_X10_76 (by assumption) (by decide) rfl dX10_shown_34 ?_
      rw [show fI M x 10 = gi S 1 from qs.1]
      refine z_callV g _ _ cv_X10_193 (k_form _ M hX0 hV j hj (nI t) d (gi S 1)) (by assumption) (by decide) rfl (by rw [hR]; decide) (by rw [hR]; decide) (by rw [hR]; decide) (Nat.le_of_ble_eq_true rfl) rfl dX10_shown_37 (fun _ _ h => False.elim h) (fun r_37 M_37 h_37 => ?_)
      obtain ⟨rfl, rfl⟩ := h_37
      refine z_lconst (v := 0) g dX10_shown_40 (by decide) ?_
      refine z_lcmp g dX10_shown_41 ?_
      refine z_if_eq (tgt := 90) g dX10_shown_42 (by decide) (fun c_42 => ?_) (fun c_42 => ?_)
      · refine z_iinc1 g dX10_shown_90 rfl (by rw [hN]; decide) ?_
        refine z_goto (tgt := 22) g dX10_shown_93 (by decide) ?_
        rw [nI_s]
        have hs := ih (k - 1) (by omega) (t + 1) (by omega)
        rw [shL_0 (fz.mp c_42)] at hs
        exact z_to hs ⟨rfl, rfl, rfl, rfl, rfl, rfl, trivial⟩
      have hnz : ¬ formA S (nI j) (nI t) d (gi S 1) = 0 := fun z => c_42 (fz.mpr z)
      have half : ∀ (v : Int32), v = (shL S j d (t + 1)).1 → Z X M 2 12 65 [(0, .ref x), (2, .int d), (3, .ref (B 4 j)), (4, .int v), (5, .int (sbI (shL S j d t).2)), (6, .int (nI t))] [] := by
        intro v hv
        rcases ho : (shL S j d t).2 with _ | q
        · show Z X M 2 12 65 [(0, .ref x), (2, .int d), (3, .ref (B 4 j)), (4, .int v), (5, .int (-1)), (6, .int (nI t))] []
          refine z_iload g dX10_shown_65 rfl ?_
          refine z_iconst (v := (-1)) g dX10_shown_67 (by decide) ?_
          refine z_icmp_eq (tgt := 86) g dX10_shown_68 (by decide) (fun c_68 => ?_) (fun c_68 => absurd rfl c_68)
          refine z_iload g dX10_shown_86 rfl ?_
          refine z_istore g dX10_shown_88 (by rw [hN]; decide) ?_
          refine z_iinc1 g dX10_shown_90 rfl (by rw [hN]; decide) ?_
          refine z_goto (tgt := 22) g dX10_shown_93 (by decide) ?_
          rw [nI_s]
          have hs := ih (k - 1) (by omega) (t + 1) (by omega)
          rw [shL_n hnz ho, ← hv] at hs
          exact z_to hs ⟨rfl, rfl, rfl, rfl, rfl, rfl, trivial⟩
        · show Z X M 2 12 65 [(0, .ref x), (2, .int d), (3, .ref (B 4 j)), (4, .int v), (5, .int (nI q)), (6, .int (nI t))] []
          have hq4 := hcB q ho
          refine z_iload g dX10_shown_65 rfl ?_
          refine z_iconst (v := (-1)) g dX10_shown_67 (by decide) ?_
          refine z_icmp_eq (tgt := 86) g dX10_shown_68 (by decide) (fun c_68 => absurd c_68 (nI_m1n (by omega))) (fun c_68 => ?_)
          refine z_aload_n g dX10_shown_71 rfl ?_
          refine z_iload g dX10_shown_72 rfl ?_
          refine z_callV g _ _ cv_X10_265 (c_hunO _ M (B 4 j) (B 170 j) t k4 g6 k170 l170 h25) (by assumption) (by decide) rfl (by rw [hR]; decide) (by rw [hR]; decide) (by rw [hR]; decide) (Nat.le_of_ble_eq_true rfl) rfl dX10_shown_74 (fun _ _ h => False.elim h) (fun r_74 M_74 h_74 => ?_)
          obtain ⟨rfl, rfl⟩ := h_74
          rw [qh j hj t h25]
          refine z_aload_n g dX10_shown_77 rfl ?_
          refine z_iload g dX10_shown_78 rfl ?_
          refine z_callV g _ _ cv_X10_265 (c_hunO _ M (B 4 j) (B 170 j) q k4 g6 k170 l170 hq4) (by assumption) (by decide) rfl (by rw [hR]; decide) (by rw [hR]; decide) (by rw [hR]; decide) (Nat.le_of_ble_eq_true rfl) rfl dX10_shown_80 (fun _ _ h => False.elim h) (fun r_80 M_80 h_80 => ?_)
          obtain ⟨rfl, rfl⟩ := h_80
          rw [qh j hj q hq4]
          refine z_icmp_le (tgt := 90) g dX10_shown_83 (by decide) (fun c_83 => ?_) (fun c_83 => ?_)
          · refine z_iinc1 g dX10_shown_90 rfl (by rw [hN]; decide) ?_
            refine z_goto (tgt := 22) g dX10_shown_93 (by decide) ?_
            rw [nI_s]
            have hs := ih (k - 1) (by omega) (t + 1) (by omega)
            rw [shL_s hnz ho, ← hv] at hs
            first
              | (rw [if_pos c_83] at hs; exact z_to hs ⟨rfl, rfl, rfl, rfl, rfl, rfl, trivial⟩)
              | (rw [if_neg c_83] at hs; exact z_to hs ⟨rfl, rfl, rfl, rfl, rfl, rfl, trivial⟩)
          · refine z_iload g dX10_shown_86 rfl ?_
            refine z_istore g dX10_shown_88 (by rw [hN]; decide) ?_
            refine z_iinc1 g dX10_shown_90 rfl (by rw [hN]; decide) ?_
            refine z_goto (tgt := 22) g dX10_shown_93 (by decide) ?_
            rw [nI_s]
            have hs := ih (k - 1) (by omega) (t + 1) (by omega)
            rw [shL_s hnz ho, ← hv] at hs
            first
              | (rw [if_pos c_83] at hs; exact z_to hs ⟨rfl, rfl, rfl, rfl, rfl, rfl, trivial⟩)
              | (rw [if_neg c_83] at hs; exact z_to hs ⟨rfl, rfl, rfl, rfl, rfl, rfl, trivial⟩)
      refine z_aload_n g dX10_shown_45 rfl ?_
      refine z_iload g dX10_shown_46 rfl ?_
      refine z_callV g _ _ cv_X10_265 (c_hunO _ M (B 4 j) (B 170 j) t k4 g6 k170 l170 h25) (by assumption) (by decide) rfl (by rw [hR]; decide) (by rw [hR]; decide) (by rw [hR]; decide) (Nat.le_of_ble_eq_true rfl) rfl dX10_shown_48 (fun _ _ h => False.elim h) (fun r_48 M_48 h_48 => ?_)
      obtain ⟨rfl, rfl⟩ := h_48
      rw [qh j hj t h25]
      refine z_bipush (v := 20) g dX10_shown_51 (by decide) ?_
      refine z_icmp_lt (tgt := 65) g dX10_shown_53 (by decide) (fun c_53 => ?_) (fun c_53 => ?_)
      · first
          | exact z_to (half _ (by rw [shL_1 hnz, if_pos c_53, or_0])) ⟨rfl, rfl, rfl, rfl, rfl, rfl, trivial⟩
          | exact z_to (half _ (by rw [shL_1 hnz, if_neg c_53])) ⟨rfl, rfl, rfl, rfl, rfl, rfl, trivial⟩
      · refine z_iload g dX10_shown_56 rfl ?_
        refine z_iconst (v := 1) g dX10_shown_58 (by decide) ?_
        refine z_iload g dX10_shown_59 rfl ?_
        refine z_ishl g dX10_shown_61 ?_
        refine z_ior g dX10_shown_62 ?_
        refine z_istore g dX10_shown_63 (by rw [hN]; decide) ?_
        first
          | exact z_to (half _ (by rw [shL_1 hnz, if_pos c_53, or_0])) ⟨rfl, rfl, rfl, rfl, rfl, rfl, trivial⟩
          | exact z_to (half _ (by rw [shL_1 hnz, if_neg c_53])) ⟨rfl, rfl, rfl, rfl, rfl, rfl, trivial⟩
  refine z_iconst (v := 0) g dX10_shown_13 (by decide) ?_
  refine z_istore g dX10_shown_14 (by rw [hN]; decide) ?_
  refine z_iconst (v := (-1)) g dX10_shown_16 (by decide) ?_
  refine z_istore g dX10_shown_17 (by rw [hN]; decide) ?_
  refine z_iconst (v := 0) g dX10_shown_19 (by decide) ?_
  refine z_istore g dX10_shown_20 (by rw [hN]; decide) ?_
  exact z_to (loop 4 0 rfl) ⟨rfl, rfl, rfl, rfl, rfl, rfl, trivial⟩
