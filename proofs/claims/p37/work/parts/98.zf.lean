set_option maxHeartbeats 4000000 in
set_option maxRecDepth 100000 in
theorem k_repl (E : Ev) {B : Nat → Nat → Nat} {x : Nat} {S : Ms} (M : Mm) (hX : RX B x S M) (hV : INV S) : CT E yX10_replaceSigns cX10_replaceSigns 3 none 8 0 0 [.ref x] M (fun r M' => r = none ∧ RX B x (oN S (manyA S)) M' ∧ agr TC M M') noX := by
  refine CT.of rfl (Nat.le_of_ble_eq_true rfl) (fun X g hrt hno hE hN hR hI => ?_)
  subst hE
  have loop : ∀ (k j : Nat) (M1 : Mm) (hk : k + j = manyA S) (hX1 : RX B x (oN S j) M1) (hg : agr TC M M1), Z X M1 0 0 2 [(0, .ref x), (1, .int (nI j))] [] := by
    intro k
    induction k using Nat.strongRecOn with
    | _ k ih =>
      intro j M1 hk hX1 hg
      obtain ⟨hV1, hcn⟩ := oN_inv hV j (by have := (many_le S).1; omega)
      have hml := many_le S
      have hmin : manyA S = cn S 58 ∨ manyA S = cn S 59 := by unfold manyA; split <;> simp
      have hb9 := hV.1.2.2.2.2.2.2.2.2.2
      have hb8 := hV.1.2.2.2.2.2.2.2.1.2
      have e59 : gi (oN S j) 59 = nI (cn S 59) := ((eqF_oN S j).2.1 59 (by decide)).trans hV.1.2.2.2.2.2.2.2.2.1
      obtain ⟨qx, qs, qf, qd, qg, qh, qp, qw, qm, qe, ql, qq, qt, qr, qc, qo, qi⟩ := id hX1
      have k11 : kd M1 x % 1000 = 11 := by rw [qx.1]
      have r5 : fR M1 x 5 = some (B 405 0) := (qx.2.1 5 (by decide)).1
      have kl5 : kd M1 (B 405 0) = 405 := (qx.2.1 5 (by decide)).2
      have l5 : LK M1 (B 405 0) 4 := qo.LK qf kl5 hV1
      refine z_iload_n g dX10_replaceSigns_2 rfl ?_
      refine z_aload_n g dX10_replaceSigns_3 rfl ?_
      refine z_getI g fl_X10_48 k11 (by decide) rfl dX10_replaceSigns_4 ?_
      rw [show fI M1 x 13 = nI (cn S 59) from qs.2.2.2.trans e59]
      refine z_icmp_ge (tgt := 53) g dX10_replaceSigns_7 (by decide) (fun c_7 => ?_) (fun c_7 => ?_)
      · rw [nI_leI (by omega) (by omega)] at c_7
        have hjm : j = manyA S := by omega
        exact z_vret g hrt (by decide) (by decide) dX10_replaceSigns_53 ⟨rfl, by rw [← hjm]; exact hX1, hg⟩
      rw [nI_leI (by omega) (by omega)] at c_7
      refine z_aload_n g dX10_replaceSigns_10 rfl ?_
      refine z_getR g fl_X10_28 k11 (by decide) rfl r5 dX10_replaceSigns_11 ?_
      refine z_callL g _ _ cv_X10_395 rfl (c_alempty _ M1 (B 405 0) l5.1 (by rw [qo.1]; omega)) l5.1 rfl (by rw [hR]; decide) (by rw [hR]; decide) (by rw [hR]; decide) (Nat.le_of_ble_eq_true rfl) rfl dX10_replaceSigns_14 (fun _ _ h => False.elim h) (fun r_14 M_14 h_14 => ?_)
      obtain ⟨rfl, rfl⟩ := h_14
      rw [qo.1, hcn]
      refine z_if_ne (tgt := 53) g dX10_replaceSigns_17 (by decide) (fun c_17 => ?_) (fun c_17 => ?_)
      · have h9 := of_decide_eq_true (b2i_n0.mp c_17)
        have hjm : j = manyA S := by omega
        exact z_vret g hrt (by decide) (by decide) dX10_replaceSigns_53 ⟨rfl, by rw [← hjm]; exact hX1, hg⟩
      have h17 := of_decide_eq_false (b2i_0.mp c_17)
      have hpos : 0 < cn (oN S j) 58 := by rw [hcn]; omega
      obtain ⟨f, hfe⟩ : ∃ f, ca (oN S j) 57 0 = f := ⟨_, rfl⟩
      have hf : f < cn (oN S j) 2 := by rw [← hfe]; exact (hV1.2.2.2.2.2.2.2.2.2.2.2.1 0 hpos).2
      have k4 : kd M1 (B 4 f) % 1000 = 4 := qf.k4 hf
      have k4r : kd (rmO B M1) (B 4 f) % 1000 = 4 := k4
      refine z_aload_n g dX10_replaceSigns_20 rfl ?_
      refine z_getR g fl_X10_28 k11 (by decide) rfl r5 dX10_replaceSigns_21 ?_
      refine z_iconst (v := 0) g dX10_replaceSigns_24 (by decide) ?_
      refine z_callL g _ _ cv_X10_398 rfl (c_alrem _ M1 (B 405 0) (B 4 f) l5.1 (by rw [qo.1]; exact hpos) (by rw [qo.1, hcn]; omega) (by rw [← hfe]; exact qo.2.1 0 hpos) (fun i hi y hy => by
        obtain ⟨z1, z2⟩ := l5.2.2 i hi
        rw [z1] at hy
        cases hy
        rw [z2]; decide)) l5.1 rfl (by rw [hR]; decide) (by rw [hR]; decide) (by rw [hR]; decide) (Nat.le_of_ble_eq_true rfl) rfl dX10_replaceSigns_25 (fun _ _ h => False.elim h) (fun r_25 M_25 h_25 => ?_)
      obtain ⟨rfl, h25⟩ := h_25
      have h25 : M_25 = rmO B M1 := by first | exact h25 | exact h25.symm
      subst h25
      refine z_cast (b := 4) g cl_X10_74 rfl k4r (by decide) dX10_replaceSigns_28 ?_
      refine z_astore_n g dX10_replaceSigns_31 (by rw [hN]; decide) ?_
      refine z_aload_n g dX10_replaceSigns_32 rfl ?_
      refine z_aload_n g dX10_replaceSigns_33 rfl ?_
      refine z_aload_n g dX10_replaceSigns_34 rfl ?_
      refine z_iconst (v := 0) g dX10_replaceSigns_35 (by decide) ?_
      refine z_callV g _ _ cv_X10_277 (j_seen _ (rmO B M1) (RY_rm hX1 hV1) hV1 f hf 0) (show kd (rmO B M1) x % 1000 = 11 from k11) (by decide) rfl (by rw [hR]; decide) (by rw [hR]; decide) (by rw [hR]; decide) (Nat.le_of_ble_eq_true rfl) rfl dX10_replaceSigns_36 (fun _ _ h => False.elim h) (fun r_36 M_36 h_36 => ?_)
      obtain ⟨rfl, rfl⟩ := h_36
      refine z_putL g fp_X10_344 k4r (by decide) rfl (fun h => nomatch h) dX10_replaceSigns_39 ?_
      refine z_aload_n g dX10_replaceSigns_42 rfl ?_
      refine z_iconst (v := 0) g dX10_replaceSigns_43 (by decide) ?_
      refine z_putZ g fp_X10_341 (show kd (sL (rmO B M1) (B 4 f) 14 (sneA (oN S j) f 0)) (B 4 f) % 1000 = 4 from k4r) (by decide) rfl (fun h => nomatch h) (Or.inl rfl) dX10_replaceSigns_44 ?_
      refine z_iinc1 g dX10_replaceSigns_47 rfl (by rw [hN]; decide) ?_
      refine z_goto (tgt := 2) g dX10_replaceSigns_50 (by decide) ?_
      rw [nI_s]
      obtain ⟨n1, n2⟩ := RX_o1 hX1 hV1 hpos hfe (v := sneA (oN S j) f 0) rfl
      exact z_to (ih (k - 1) (by omega) (j + 1) _ (by omega) n1 (hg.tr n2)) ⟨rfl, rfl, trivial⟩
  refine z_iconst (v := 0) g dX10_replaceSigns_0 (by decide) ?_
  refine z_istore_n g dX10_replaceSigns_1 (by rw [hN]; decide) ?_
  exact z_to (loop (manyA S) 0 M rfl hX agr.rf) ⟨rfl, rfl, trivial⟩
set_option maxHeartbeats 4000000 in
set_option maxRecDepth 100000 in
theorem k_pass (E : Ev) {B : Nat → Nat → Nat} {x : Nat} {S : Ms} (M : Mm) (hX : RX B x S M) (hV : INV S) (d : Int32) : CT E yX10_pass cX10_pass 3 (some .int) 10 16 500 [.ref x, .int d] M (fun r M' => cPass S d = 0 ∧ r = (some (.int (vPass S d))) ∧ agr TC M M' ∧ ∃ B', RX B' x (sPass S d) M') (fun E9 M' => M = M' ∧ ((cPass S d = 1 ∧ E9 = IAE) ∨ (cPass S d = 2 ∧ E9 = ISE))) := by
  refine CT.of rfl (Nat.le_of_ble_eq_true rfl) (fun X g hrt hno hE hN hR hI => ?_)
  subst hE
  have hX0 := hX
  obtain ⟨qx, qs, qf, qd, qg, qh, qp, qw, qm, qe, ql, qq, qt, qr, qc, qo, qi⟩ := hX
  have k11 : kd M x % 1000 = 11 := by rw [qx.1]
  refine z_iload_n g dX10_pass_0 rfl ?_
  refine z_iconst (v := 1) g dX10_pass_1 (by decide) ?_
  refine z_icmp_lt (tgt := 16) g dX10_pass_2 (by decide) (fun c_2 => ?_) (fun c_2 => ?_)
  · refine z_iconst (v := 0) g dX10_pass_16 (by decide) ?_
    exact z_callS g _ _ cs_X10_63 (c_needArg _ M false) rfl (by rw [hR]; decide) (by rw [hR]; decide) (by rw [hR]; decide) (Nat.le_of_ble_eq_true rfl) rfl dX10_pass_17 (fun E9 M9 h9 => by obtain ⟨-, rfl, rfl⟩ := h9; exact zx_out g hrt hno (by decide) (by decide) ⟨rfl, Or.inl ⟨by simp [cPass, inB, eq_true c_2], rfl⟩⟩) (fun _ _ h => by cases h.1)
  · refine z_iload_n g dX10_pass_5 rfl ?_
    refine z_sipush (v := 400) g dX10_pass_6 (by decide) ?_
    refine z_icmp_gt (tgt := 16) g dX10_pass_9 (by decide) (fun c_9 => ?_) (fun c_9 => ?_)
    · refine z_iconst (v := 0) g dX10_pass_16 (by decide) ?_
      exact z_callS g _ _ cs_X10_63 (c_needArg _ M false) rfl (by rw [hR]; decide) (by rw [hR]; decide) (by rw [hR]; decide) (Nat.le_of_ble_eq_true rfl) rfl dX10_pass_17 (fun E9 M9 h9 => by obtain ⟨-, rfl, rfl⟩ := h9; exact zx_out g hrt hno (by decide) (by decide) ⟨rfl, Or.inl ⟨by simp [cPass, inB, eq_false c_2, eq_true c_9], rfl⟩⟩) (fun _ _ h => by cases h.1)
    · refine z_iconst (v := 1) g dX10_pass_12 (by decide) ?_
      refine z_goto (tgt := 17) g dX10_pass_13 (by decide) ?_
      refine z_callS g _ _ cs_X10_63 (c_needArg _ M true) rfl (by rw [hR]; decide) (by rw [hR]; decide) (by rw [hR]; decide) (Nat.le_of_ble_eq_true rfl) rfl dX10_pass_17 (fun _ _ h => by cases h.1) (fun r_17 M_17 h_17 => ?_)
      obtain ⟨-, rfl, rfl⟩ := h_17
      refine z_aload_n g dX10_pass_20 rfl ?_
      refine z_getI g fl_X10_76 k11 (by decide) rfl dX10_pass_21 ?_
      rw [qs.1]
      refine z_iload_n g dX10_pass_24 rfl ?_
      refine z_iadd g dX10_pass_25 ?_
      refine z_sipush (v := 9999) g dX10_pass_26 (by decide) ?_
      refine z_icmp_gt (tgt := 36) g dX10_pass_29 (by decide) (fun c_29 => ?_) (fun c_29 => ?_)
      · have h17 : ¬ gi S 1 + d ≤ 9999 := fun z => Int32.lt_irrefl (Int32.lt_of_lt_of_le c_29 z)
        refine z_iconst (v := 0) g dX10_pass_36 (by decide) ?_
        exact z_callS g _ _ cs_X10_71 (c_needSt _ M false) rfl (by rw [hR]; decide) (by rw [hR]; decide) (by rw [hR]; decide) (Nat.le_of_ble_eq_true rfl) rfl dX10_pass_37 (fun E9 M9 h9 => by obtain ⟨-, rfl, rfl⟩ := h9; exact zx_out g hrt hno (by decide) (by decide) ⟨rfl, Or.inr (⟨by simp [cPass, inB, h17, eq_false c_2, eq_false c_9], rfl⟩)⟩) (fun _ _ h => by cases h.1)
      · have h17 : gi S 1 + d ≤ 9999 := Int32.not_lt.mp c_29
        refine z_iconst (v := 1) g dX10_pass_32 (by decide) ?_
        refine z_goto (tgt := 37) g dX10_pass_33 (by decide) ?_
        refine z_callS g _ _ cs_X10_71 (c_needSt _ M true) rfl (by rw [hR]; decide) (by rw [hR]; decide) (by rw [hR]; decide) (Nat.le_of_ble_eq_true rfl) rfl dX10_pass_37 (fun _ _ h => by cases h.1) (fun r_37 M_37 h_37 => ?_)
        obtain ⟨-, rfl, rfl⟩ := h_37
        refine z_iconst (v := 0) g dX10_pass_40 (by decide) ?_
        refine z_istore_n g dX10_pass_41 (by rw [hN]; decide) ?_
        have hc0 : cPass S d = 0 := by simp [cPass, inB, h17, eq_false c_2, eq_false c_9]
        obtain ⟨n, hn1, hn4, rfl⟩ := inb (a := 1) (b := 400) (v := d) (by decide) (show inB d 1 400 = true from by unfold inB; rw [decide_eq_false c_2, decide_eq_false c_9]; rfl) (by decide)
        have hcl : (nI n).toNatClampNeg = n := nI_clamp (by omega)
        have hsum : cn S 1 + n ≤ 9999 := by
          have h9 := h17
          rw [hV.1.1.1, nI_add, show (9999 : Int32) = nI 9999 from rfl, nI_leI (by have := hV.1.1.2; omega) (by decide)] at h9
          exact h9
        have loop : ∀ (k j : Nat) (M1 : Mm) (hk : k + j = n) (hX1 : RX B x (psN (wi S 0 0) j) M1) (hg : agr TC M M1), Z X M1 2 12 42 [(0, .ref x), (1, .int (nI n)), (2, .int (nI j))] [] := by
          intro k
          induction k using Nat.strongRecOn with
          | _ k ih =>
            intro j M1 hk hX1 hg
            obtain ⟨hV1, hcn1⟩ := INV_psN hV j (by omega)
            obtain ⟨qx, qs, qf, qd, qg, qh, qp, qw, qm, qe, ql, qq, qt, qr, qc, qo, qi⟩ := id hX1
            have k11 : kd M1 x % 1000 = 11 := by rw [qx.1]
            refine z_iload_n g dX10_pass_42 rfl ?_
            refine z_iload_n g dX10_pass_43 rfl ?_
            refine z_icmp_ge (tgt := 67) g dX10_pass_44 (by decide) (fun c_44 => ?_) (fun c_44 => ?_)
            · rw [nI_leI (by omega) (by omega)] at c_44
              have hjn : j = n := by omega
              subst hjn
              refine z_aload_n g dX10_pass_67 rfl ?_
              refine z_getI g fl_X10_76 k11 (by decide) rfl dX10_pass_68 ?_
              rw [qs.1]
              exact z_iret g hrt rfl (by decide) (by decide) dX10_pass_71 ⟨hc0, by unfold vPass; rw [hcl], hg, B, by unfold sPass; rw [hcl]; exact hX1⟩
            rw [nI_leI (by omega) (by omega)] at c_44
            refine z_aload_n g dX10_pass_47 rfl ?_
            refine z_callV g _ _ cv_X10_347 (k_repl _ M1 hX1 hV1) k11 (by decide) rfl (by rw [hR]; decide) (by rw [hR]; decide) (by rw [hR]; decide) (Nat.le_of_ble_eq_true rfl) rfl dX10_pass_48 (fun _ _ h => False.elim h) (fun r_48 M2 h_48 => ?_)
            obtain ⟨rfl, hX2, hg2⟩ := h_48
            have kx2 : kd M2 x % 1000 = 11 := by rw [hX2.1.1]
            have fx2 : fI M2 x 10 = gi (psN (wi S 0 0) j) 1 := hX2.2.1.1.trans ((eqF_oN _ _).2.1 1 (by decide))
            refine z_aload_n g dX10_pass_51 rfl ?_
            refine z_dup g dX10_pass_52 rfl ?_
            refine z_getI g fl_X10_76 kx2 (by decide) rfl dX10_pass_53 ?_
            rw [fx2]
            refine z_iconst (v := 1) g dX10_pass_56 (by decide) ?_
            refine z_iadd g dX10_pass_57 ?_
            refine z_putI g fp_X10_76 kx2 (by decide) rfl (fun h => nomatch h) dX10_pass_58 ?_
            refine z_iinc1 g dX10_pass_61 rfl (by rw [hN]; decide) ?_
            refine z_goto (tgt := 42) g dX10_pass_64 (by decide) ?_
            rw [nI_s]
            obtain ⟨n1, n2⟩ := RX_day hX2 (oN_inv hV1 _ (many_le _).1).1 (v := gi (psN (wi S 0 0) j) 1 + 1)
            obtain ⟨p1, p2⟩ := psA_57 hV1
            have hX3 : RX B x (psA (psN (wi S 0 0) j)) (sI M2 x 10 (gi (psN (wi S 0 0) j) 1 + 1)) := by
              rw [p1]; exact RX_57 n1 p2
            exact z_to (ih (k - 1) (by omega) (j + 1) _ (by omega) hX3 ((hg.tr hg2).tr n2)) ⟨rfl, rfl, rfl, trivial⟩
        exact z_to (loop n 0 M rfl (RX_wi0 0 hX0) agr.rf) ⟨rfl, rfl, rfl, trivial⟩
