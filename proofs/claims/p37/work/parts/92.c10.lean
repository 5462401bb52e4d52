theorem c8_ex {d : Int32} (h : inB d 0 8 = true) : ∃ n, n < 9 ∧ d = nI n := by
  obtain ⟨n, -, h1, h2⟩ := inb (a := 0) (b := 8) (v := d) (by decide) h (by decide)
  exact ⟨n, by omega, h2⟩
theorem c7_ex {d : Int32} (h : inB d 0 7 = true) : ∃ n, n < 8 ∧ d = nI n := by
  obtain ⟨n, -, h1, h2⟩ := inb (a := 0) (b := 7) (v := d) (by decide) h (by decide)
  exact ⟨n, by omega, h2⟩
theorem vot_e {u v n : Nat} (hu : u ≤ 511) (hv : v ≤ 511) (hn : n < 9) : ((nI u ||| nI v) &&& 1 <<< (nI n &&& 31) = 0) ↔ ((nI u ||| nI v) >>> (nI n &&& 31) &&& 1 = 0) := by
  have h := voted_eq (u ||| v) (Nat.or_lt_two_pow (n := 9) (by omega) (by omega)) n hn
  rw [nI_or]
  exact decide_eq_decide.mp h
set_option maxHeartbeats 4000000 in
set_option maxRecDepth 100000 in
theorem k_vote (E : Ev) {B : Nat → Nat → Nat} {x : Nat} {S : Ms} (M : Mm) (hX : RX B x S M) (hV : INV S) (f c b : Int32) : CT E yX10_vote cX10_vote 5 (some .int) 10 16 500 [.ref x, .int f, .int c, .int b] M (fun r M' => cVote S f c b = 0 ∧ r = (some (.int (vVote S f c b))) ∧ agr TC M M' ∧ ∃ B', RX B' x (sVote S f c b) M') (fun E9 M' => M = M' ∧ ((cVote S f c b = 1 ∧ E9 = IOE) ∨ (cVote S f c b = 2 ∧ E9 = ISE))) := by
  refine CT.of rfl (Nat.le_of_ble_eq_true rfl) (fun X g hrt hno hE hN hR hI => ?_)
  subst hE
  have hX0 := hX
  obtain ⟨qx, qs, qf, qd, qg, qh, qp, qw, qm, qe, ql, qq, qt, qr, qc, qo, qi⟩ := hX
  have k11 : kd M x % 1000 = 11 := by rw [qx.1]
  have r2 : fR M x 2 = some (B 402 0) := (qx.2.1 2 (by decide)).1
  have kl2 : kd M (B 402 0) = 402 := (qx.2.1 2 (by decide)).2
  have l2 : LK M (B 402 0) 8 := qq.LK kl2 hV
  have m2 := l2.1
  have n2 : ln M (B 402 0) = cn S 36 := qq.1
  have b2 := l2.2.1
  rw [n2] at b2
  refine z_aload_n g dX10_vote_0 rfl ?_
  refine z_iload_n g dX10_vote_1 rfl ?_
  refine z_callV g _ _ cv_X10_202 (k_petAt _ M hX0 hV f) (by assumption) (by decide) rfl (by rw [hR]; decide) (by rw [hR]; decide) (by rw [hR]; decide) (Nat.le_of_ble_eq_true rfl) rfl dX10_vote_2 (fun E9 M9 h9 => by obtain ⟨h9, rfl, rfl⟩ := h9; have hF := (isP_ix hV f).trans h9; exact zx_out g hrt hno (by decide) (by decide) ⟨rfl, Or.inl ⟨by simp [cVote, hF], rfl⟩⟩) (fun r_2 M_2 h_2 => ?_)
  obtain ⟨j, hj, rfl, rfl, rfl⟩ := h_2
  have hF : isP S (nI j) = true := isP_j hV hj
  have hcl : (nI j).toNatClampNeg = j := nI_clamp (by omega)
  obtain ⟨-, k8a, z0, z1, z2, z3, z4, z5, z6, z7, z8, z9⟩ := qq.2 j hj
  have k8 : kd M (elt M (B 402 0) j) % 1000 = 8 := by rw [k8a]; omega
  refine z_astore g dX10_vote_5 (by rw [hN]; decide) ?_
  refine z_iload_n g dX10_vote_7 rfl ?_
  refine z_bipush (v := 9) g dX10_vote_8 (by decide) ?_
  refine z_callS g _ _ cs_X10_206 (c_needIx _ M c 9) rfl (by rw [hR]; decide) (by rw [hR]; decide) (by rw [hR]; decide) (Nat.le_of_ble_eq_true rfl) rfl dX10_vote_10 (fun E9 M9 h9 => by obtain ⟨h9, rfl, rfl⟩ := h9; rw [ix_9] at h9; exact zx_out g hrt hno (by decide) (by decide) ⟨rfl, Or.inl ⟨by simp [cVote, hF, hcl, h9], rfl⟩⟩) (fun r_10 M_10 h_10 => ?_)
  obtain ⟨hI_10, rfl, rfl⟩ := h_10
  have hJ_10 := hI_10
  rw [ix_9] at hI_10
  obtain ⟨-, -, -, -, -, ⟨p1, p1b⟩, ⟨p2, p2b⟩, ⟨p3, p3b⟩, ⟨p4, p4b⟩, pD, pN⟩ := hV.2.2.2.2.2.2.1 j hj
  obtain ⟨u, hu, rfl⟩ := c8_ex hI_10
  have hcu : (nI u).toNatClampNeg = u := nI_clamp (by omega)
  have hve : ((gA S 42 j ||| gA S 43 j) &&& 1 <<< (nI u &&& 31) = 0) ↔ ((gA S 42 j ||| gA S 43 j) >>> (nI u &&& 31) &&& 1 = 0) := by rw [p2, p3]; exact vot_e p2b p3b hu
  refine z_aload g dX10_vote_13 rfl ?_
  refine z_getI g fl_X10_209 (by assumption) (by decide) rfl dX10_vote_15 ?_
  rw [z4]
  refine z_if_ne (tgt := 34) g dX10_vote_18 (by decide) (fun c_18 => ?_) (fun c_18 => ?_)
  · refine z_iconst (v := 0) g dX10_vote_34 (by decide) ?_
    exact z_callS g _ _ cs_X10_71 (c_needSt _ M false) rfl (by rw [hR]; decide) (by rw [hR]; decide) (by rw [hR]; decide) (Nat.le_of_ble_eq_true rfl) rfl dX10_vote_35 (fun E9 M9 h9 => by obtain ⟨-, rfl, rfl⟩ := h9; exact zx_out g hrt hno (by decide) (by decide) ⟨rfl, Or.inr (⟨by simp [cVote, hF, hcl, hI_10, eq_false c_18], rfl⟩)⟩) (fun _ _ h => by cases h.1)
  · refine z_aload g dX10_vote_21 rfl ?_
    refine z_iload_n g dX10_vote_23 rfl ?_
    refine z_callV g _ _ cv_X10_212 (c_hVot _ M (elt M (B 402 0) j) k8 (nI u)) (by assumption) (by decide) rfl (by rw [hR]; decide) (by rw [hR]; decide) (by rw [hR]; decide) (Nat.le_of_ble_eq_true rfl) rfl dX10_vote_24 (fun _ _ h => False.elim h) (fun r_24 M_24 h_24 => ?_)
    obtain ⟨rfl, rfl⟩ := h_24
    rw [z5, z6]
    refine z_if_ne (tgt := 34) g dX10_vote_27 (by decide) (fun c_27 => ?_) (fun c_27 => ?_)
    · have hvv : ¬ ((gA S 42 j ||| gA S 43 j) >>> (nI u &&& 31) &&& 1 = 0) := fun z => by have h9 := b2i_n0.mp c_27; rw [decide_eq_true (hve.mpr z)] at h9; cases h9
      refine z_iconst (v := 0) g dX10_vote_34 (by decide) ?_
      exact z_callS g _ _ cs_X10_71 (c_needSt _ M false) rfl (by rw [hR]; decide) (by rw [hR]; decide) (by rw [hR]; decide) (Nat.le_of_ble_eq_true rfl) rfl dX10_vote_35 (fun E9 M9 h9 => by obtain ⟨-, rfl, rfl⟩ := h9; exact zx_out g hrt hno (by decide) (by decide) ⟨rfl, Or.inr (⟨by simp [cVote, hF, hcl, hI_10, hvv, eq_true c_18], rfl⟩)⟩) (fun _ _ h => by cases h.1)
    · have hvv : ((gA S 42 j ||| gA S 43 j) >>> (nI u &&& 31) &&& 1 = 0) := hve.mp (by have h9 := b2i_0.mp c_27; rw [Bool.not_eq_false'] at h9; exact of_decide_eq_true h9)
      refine z_iconst (v := 1) g dX10_vote_30 (by decide) ?_
      refine z_goto (tgt := 35) g dX10_vote_31 (by decide) ?_
      refine z_callS g _ _ cs_X10_71 (c_needSt _ M true) rfl (by rw [hR]; decide) (by rw [hR]; decide) (by rw [hR]; decide) (Nat.le_of_ble_eq_true rfl) rfl dX10_vote_35 (fun _ _ h => by cases h.1) (fun r_35 M_35 h_35 => ?_)
      obtain ⟨-, rfl, rfl⟩ := h_35
      refine z_iload_n g dX10_vote_38 rfl ?_
      refine z_if_eq (tgt := 58) g dX10_vote_39 (by decide) (fun c_39 => ?_) (fun c_39 => ?_)
      · refine z_aload g dX10_vote_58 rfl ?_
        refine z_dup g dX10_vote_60 rfl ?_
        refine z_getI g fl_X10_218 (by assumption) (by decide) rfl dX10_vote_61 ?_
        rw [z6]
        refine z_iconst (v := 1) g dX10_vote_64 (by decide) ?_
        refine z_iload_n g dX10_vote_65 rfl ?_
        refine z_ishl g dX10_vote_66 ?_
        refine z_ior g dX10_vote_67 ?_
        refine z_putI g fp_X10_218 k8 (by decide) rfl (fun h => nomatch h) dX10_vote_68 ?_
        refine z_aload g dX10_vote_71 rfl ?_
        have hp27 : 2 ^ u < 2 ^ 27 := Nat.pow_lt_pow_right (by decide) (by omega)
        refine z_callV g _ _ cv_X10_221 (c_cVot _ (sI M (elt M (B 402 0) j) 6 (gA S 43 j ||| 1 <<< (nI u &&& 31))) (elt M (B 402 0) j) k8 (u := ca S 42 j) (v := ca S 43 j ||| 2 ^ u) ((fI_k (by decide)).trans (z5.trans p2)) ((fI_s.trans (by rw [sh1 u (by omega)]; exact (congrArg (fun q => q ||| nI (2 ^ u)) p3).trans (nI_or _ _)))) (by omega) (Nat.or_lt_two_pow (by omega) hp27)) k8 (by decide) rfl (by rw [hR]; decide) (by rw [hR]; decide) (by rw [hR]; decide) (Nat.le_of_ble_eq_true rfl) rfl dX10_vote_73 (fun _ _ h => False.elim h) (fun r_73 M_73 h_73 => ?_)
        obtain ⟨rfl, rfl⟩ := h_73
        rw [← Nat.or_assoc]
        exact z_iret g hrt rfl (by decide) (by decide) dX10_vote_76 ⟨by simp [cVote, hF, hcl, hI_10, hvv, eq_true c_18], by unfold vVote; rw [hcl, hcu], (RX_va hX0 hV (v := gA S 43 j ||| 1 <<< (nI u &&& 31)) hj).2, B, by unfold sVote; rw [if_pos c_39, hcl]; exact (RX_va hX0 hV (v := gA S 43 j ||| 1 <<< (nI u &&& 31)) hj).1⟩
      · refine z_aload g dX10_vote_42 rfl ?_
        refine z_dup g dX10_vote_44 rfl ?_
        refine z_getI g fl_X10_215 (by assumption) (by decide) rfl dX10_vote_45 ?_
        rw [z5]
        refine z_iconst (v := 1) g dX10_vote_48 (by decide) ?_
        refine z_iload_n g dX10_vote_49 rfl ?_
        refine z_ishl g dX10_vote_50 ?_
        refine z_ior g dX10_vote_51 ?_
        refine z_putI g fp_X10_215 k8 (by decide) rfl (fun h => nomatch h) dX10_vote_52 ?_
        refine z_goto (tgt := 71) g dX10_vote_55 (by decide) ?_
        refine z_aload g dX10_vote_71 rfl ?_
        have hp27 : 2 ^ u < 2 ^ 27 := Nat.pow_lt_pow_right (by decide) (by omega)
        refine z_callV g _ _ cv_X10_221 (c_cVot _ (sI M (elt M (B 402 0) j) 5 (gA S 42 j ||| 1 <<< (nI u &&& 31))) (elt M (B 402 0) j) k8 (u := ca S 42 j ||| 2 ^ u) (v := ca S 43 j) ((fI_s.trans (by rw [sh1 u (by omega)]; exact (congrArg (fun q => q ||| nI (2 ^ u)) p2).trans (nI_or _ _)))) ((fI_k (by decide)).trans (z6.trans p3)) (Nat.or_lt_two_pow (by omega) hp27) (by omega)) k8 (by decide) rfl (by rw [hR]; decide) (by rw [hR]; decide) (by rw [hR]; decide) (Nat.le_of_ble_eq_true rfl) rfl dX10_vote_73 (fun _ _ h => False.elim h) (fun r_73 M_73 h_73 => ?_)
        obtain ⟨rfl, rfl⟩ := h_73
        rw [show (ca S 42 j ||| 2 ^ u) ||| ca S 43 j = ca S 42 j ||| ca S 43 j ||| 2 ^ u from by rw [Nat.or_assoc, Nat.or_comm (2 ^ u), ← Nat.or_assoc]]
        exact z_iret g hrt rfl (by decide) (by decide) dX10_vote_76 ⟨by simp [cVote, hF, hcl, hI_10, hvv, eq_true c_18], by unfold vVote; rw [hcl, hcu], (RX_vf hX0 hV (v := gA S 42 j ||| 1 <<< (nI u &&& 31)) hj).2, B, by unfold sVote; rw [if_neg c_39, hcl]; exact (RX_vf hX0 hV (v := gA S 42 j ||| 1 <<< (nI u &&& 31)) hj).1⟩
theorem nI_xor (a b : Nat) : nI a ^^^ nI b = nI (a ^^^ b) := Int32.toBitVec_inj.mp (BitVec.ofNat_xor).symm
set_option maxHeartbeats 4000000 in
set_option maxRecDepth 100000 in
theorem k_protest (E : Ev) {B : Nat → Nat → Nat} {x : Nat} {S : Ms} (M : Mm) (hX : RX B x S M) (hV : INV S) (f c : Int32) : CT E yX10_protest cX10_protest 4 (some .boolean) 10 16 500 [.ref x, .int f, .int c] M (fun r M' => cProtest S f c = 0 ∧ r = (some (.int (b2i (vProtest S f c)))) ∧ agr TC M M' ∧ ∃ B', RX B' x (sProtest S f c) M') (fun E9 M' => M = M' ∧ ((cProtest S f c = 1 ∧ E9 = IOE) ∨ (cProtest S f c = 2 ∧ E9 = ISE))) := by
  refine CT.of rfl (Nat.le_of_ble_eq_true rfl) (fun X g hrt hno hE hN hR hI => ?_)
  subst hE
  have hX0 := hX
  obtain ⟨qx, qs, qf, qd, qg, qh, qp, qw, qm, qe, ql, qq, qt, qr, qc, qo, qi⟩ := hX
  have k11 : kd M x % 1000 = 11 := by rw [qx.1]
  have r2 : fR M x 2 = some (B 402 0) := (qx.2.1 2 (by decide)).1
  have kl2 : kd M (B 402 0) = 402 := (qx.2.1 2 (by decide)).2
  have l2 : LK M (B 402 0) 8 := qq.LK kl2 hV
  have m2 := l2.1
  have n2 : ln M (B 402 0) = cn S 36 := qq.1
  have b2 := l2.2.1
  rw [n2] at b2
  refine z_aload_n g dX10_protest_0 rfl ?_
  refine z_iload_n g dX10_protest_1 rfl ?_
  refine z_callV g _ _ cv_X10_202 (k_petAt _ M hX0 hV f) (by assumption) (by decide) rfl (by rw [hR]; decide) (by rw [hR]; decide) (by rw [hR]; decide) (Nat.le_of_ble_eq_true rfl) rfl dX10_protest_2 (fun E9 M9 h9 => by obtain ⟨h9, rfl, rfl⟩ := h9; have hF := (isP_ix hV f).trans h9; exact zx_out g hrt hno (by decide) (by decide) ⟨rfl, Or.inl ⟨by simp [cProtest, hF], rfl⟩⟩) (fun r_2 M_2 h_2 => ?_)
  obtain ⟨j, hj, rfl, rfl, rfl⟩ := h_2
  have hF : isP S (nI j) = true := isP_j hV hj
  have hcl : (nI j).toNatClampNeg = j := nI_clamp (by omega)
  obtain ⟨-, k8a, z0, z1, z2, z3, z4, z5, z6, z7, z8, z9⟩ := qq.2 j hj
  have k8 : kd M (elt M (B 402 0) j) % 1000 = 8 := by rw [k8a]; omega
  refine z_astore_n g dX10_protest_5 (by rw [hN]; decide) ?_
  refine z_iload_n g dX10_protest_6 rfl ?_
  refine z_bipush (v := 8) g dX10_protest_7 (by decide) ?_
  refine z_callS g _ _ cs_X10_206 (c_needIx _ M c 8) rfl (by rw [hR]; decide) (by rw [hR]; decide) (by rw [hR]; decide) (Nat.le_of_ble_eq_true rfl) rfl dX10_protest_9 (fun E9 M9 h9 => by obtain ⟨h9, rfl, rfl⟩ := h9; rw [ix_8] at h9; exact zx_out g hrt hno (by decide) (by decide) ⟨rfl, Or.inl ⟨by simp [cProtest, hF, hcl, h9], rfl⟩⟩) (fun r_9 M_9 h_9 => ?_)
  obtain ⟨hI_9, rfl, rfl⟩ := h_9
  have hJ_9 := hI_9
  rw [ix_8] at hI_9
  obtain ⟨-, -, -, -, -, ⟨p1, p1b⟩, ⟨p2, p2b⟩, ⟨p3, p3b⟩, ⟨p4, p4b⟩, pD, pN⟩ := hV.2.2.2.2.2.2.1 j hj
  obtain ⟨u, hu, rfl⟩ := c7_ex hI_9
  refine z_aload_n g dX10_protest_12 rfl ?_
  refine z_getI g fl_X10_209 (by assumption) (by decide) rfl dX10_protest_13 ?_
  rw [z4]
  refine z_if_ne (tgt := 23) g dX10_protest_16 (by decide) (fun c_16 => ?_) (fun c_16 => ?_)
  · refine z_iconst (v := 0) g dX10_protest_23 (by decide) ?_
    exact z_callS g _ _ cs_X10_71 (c_needSt _ M false) rfl (by rw [hR]; decide) (by rw [hR]; decide) (by rw [hR]; decide) (Nat.le_of_ble_eq_true rfl) rfl dX10_protest_24 (fun E9 M9 h9 => by obtain ⟨-, rfl, rfl⟩ := h9; exact zx_out g hrt hno (by decide) (by decide) ⟨rfl, Or.inr (⟨by simp [cProtest, hF, hcl, hI_9, eq_false c_16], rfl⟩)⟩) (fun _ _ h => by cases h.1)
  · refine z_iconst (v := 1) g dX10_protest_19 (by decide) ?_
    refine z_goto (tgt := 24) g dX10_protest_20 (by decide) ?_
    refine z_callS g _ _ cs_X10_71 (c_needSt _ M true) rfl (by rw [hR]; decide) (by rw [hR]; decide) (by rw [hR]; decide) (Nat.le_of_ble_eq_true rfl) rfl dX10_protest_24 (fun _ _ h => by cases h.1) (fun r_24 M_24 h_24 => ?_)
    obtain ⟨-, rfl, rfl⟩ := h_24
    refine z_aload_n g dX10_protest_27 rfl ?_
    refine z_dup g dX10_protest_28 rfl ?_
    refine z_getI g fl_X10_224 (by assumption) (by decide) rfl dX10_protest_29 ?_
    rw [z7]
    refine z_iconst (v := 1) g dX10_protest_32 (by decide) ?_
    refine z_iload_n g dX10_protest_33 rfl ?_
    refine z_ishl g dX10_protest_34 ?_
    refine z_ixor g dX10_protest_35 ?_
    refine z_putI g fp_X10_224 k8 (by decide) rfl (fun h => nomatch h) dX10_protest_36 ?_
    refine z_aload_n g dX10_protest_39 rfl ?_
    refine z_getI g fl_X10_224 k8 (by decide) rfl dX10_protest_40 ?_
    rw [fI_s]
    refine z_iconst (v := 1) g dX10_protest_43 (by decide) ?_
    refine z_iload_n g dX10_protest_44 rfl ?_
    refine z_ishl g dX10_protest_45 ?_
    refine z_iand g dX10_protest_46 ?_
    have hx : (gA S 44 j ^^^ 1 <<< (nI u &&& 31)) = nI (ca S 44 j ^^^ 2 ^ u) := by rw [sh1 u (by omega)]; exact (congrArg (fun q => q ^^^ nI (2 ^ u)) p4).trans (nI_xor _ _)
    have hxb : ca S 44 j ^^^ 2 ^ u < 256 := Nat.xor_lt_two_pow (n := 8) (by omega) (Nat.pow_lt_pow_right (by decide) hu)
    have hpe := prot_eq _ hxb u hu
    rw [← hx] at hpe
    refine z_if_eq (tgt := 54) g dX10_protest_47 (by decide) (fun c_47 => ?_) (fun c_47 => ?_)
    · refine z_iconst (v := 0) g dX10_protest_54 (by decide) ?_
      exact z_iret g hrt (by decide) (by decide) (by decide) dX10_protest_55 ⟨by simp [cProtest, hF, hcl, hI_9, eq_true c_16], by unfold vProtest; rw [hcl, ← hpe, decide_eq_true c_47]; rfl, (RX_pro hX0 hV (v := (gA S 44 j ^^^ 1 <<< (nI u &&& 31))) hj).2, B, by unfold sProtest; rw [hcl]; exact (RX_pro hX0 hV (v := (gA S 44 j ^^^ 1 <<< (nI u &&& 31))) hj).1⟩
    · refine z_iconst (v := 1) g dX10_protest_50 (by decide) ?_
      refine z_goto (tgt := 55) g dX10_protest_51 (by decide) ?_
      exact z_iret g hrt (by decide) (by decide) (by decide) dX10_protest_55 ⟨by simp [cProtest, hF, hcl, hI_9, eq_true c_16], by unfold vProtest; rw [hcl, ← hpe, decide_eq_false c_47]; rfl, (RX_pro hX0 hV (v := (gA S 44 j ^^^ 1 <<< (nI u &&& 31))) hj).2, B, by unfold sProtest; rw [hcl]; exact (RX_pro hX0 hV (v := (gA S 44 j ^^^ 1 <<< (nI u &&& 31))) hj).1⟩
set_option maxHeartbeats 4000000 in
set_option maxRecDepth 100000 in
theorem k_appeal (E : Ev) {B : Nat → Nat → Nat} {x : Nat} {S : Ms} (M : Mm) (hX : RX B x S M) (hV : INV S) (f : Int32) : CT E yX10_appeal cX10_appeal 4 (some .int) 10 16 500 [.ref x, .int f] M (fun r M' => cAppeal S f = 0 ∧ r = (some (.int (vAppeal S f))) ∧ agr TC M M' ∧ ∃ B', RX B' x (sAppeal S f) M') (fun E9 M' => M = M' ∧ ((cAppeal S f = 1 ∧ E9 = IOE) ∨ (cAppeal S f = 2 ∧ E9 = ISE))) := by
  refine CT.of rfl (Nat.le_of_ble_eq_true rfl) (fun X g hrt hno hE hN hR hI => ?_)
  subst hE
  have hX0 := hX
  obtain ⟨qx, qs, qf, qd, qg, qh, qp, qw, qm, qe, ql, qq, qt, qr, qc, qo, qi⟩ := hX
  have k11 : kd M x % 1000 = 11 := by rw [qx.1]
  have r2 : fR M x 2 = some (B 402 0) := (qx.2.1 2 (by decide)).1
  have kl2 : kd M (B 402 0) = 402 := (qx.2.1 2 (by decide)).2
  have l2 : LK M (B 402 0) 8 := qq.LK kl2 hV
  have m2 := l2.1
  have n2 : ln M (B 402 0) = cn S 36 := qq.1
  have b2 := l2.2.1
  rw [n2] at b2
  refine z_aload_n g dX10_appeal_0 rfl ?_
  refine z_iload_n g dX10_appeal_1 rfl ?_
  refine z_callV g _ _ cv_X10_202 (k_petAt _ M hX0 hV f) (by assumption) (by decide) rfl (by rw [hR]; decide) (by rw [hR]; decide) (by rw [hR]; decide) (Nat.le_of_ble_eq_true rfl) rfl dX10_appeal_2 (fun E9 M9 h9 => by obtain ⟨h9, rfl, rfl⟩ := h9; have hF := (isP_ix hV f).trans h9; exact zx_out g hrt hno (by decide) (by decide) ⟨rfl, Or.inl ⟨by simp [cAppeal, hF], rfl⟩⟩) (fun r_2 M_2 h_2 => ?_)
  obtain ⟨j, hj, rfl, rfl, rfl⟩ := h_2
  have hF : isP S (nI j) = true := isP_j hV hj
  have hcl : (nI j).toNatClampNeg = j := nI_clamp (by omega)
  obtain ⟨-, k8a, z0, z1, z2, z3, z4, z5, z6, z7, z8, z9⟩ := qq.2 j hj
  have k8 : kd M (elt M (B 402 0) j) % 1000 = 8 := by rw [k8a]; omega
  refine z_astore_n g dX10_appeal_5 (by rw [hN]; decide) ?_
  refine z_aload_n g dX10_appeal_6 rfl ?_
  refine z_getI g fl_X10_209 (by assumption) (by decide) rfl dX10_appeal_7 ?_
  rw [z4]
  refine z_iconst (v := 1) g dX10_appeal_10 (by decide) ?_
  refine z_icmp_ne (tgt := 32) g dX10_appeal_11 (by decide) (fun c_11 => ?_) (fun c_11 => ?_)
  · have h41 : ¬ gA S 41 j = 1 := c_11
    refine z_iconst (v := 0) g dX10_appeal_32 (by decide) ?_
    exact z_callS g _ _ cs_X10_71 (c_needSt _ M false) rfl (by rw [hR]; decide) (by rw [hR]; decide) (by rw [hR]; decide) (Nat.le_of_ble_eq_true rfl) rfl dX10_appeal_33 (fun E9 M9 h9 => by obtain ⟨-, rfl, rfl⟩ := h9; exact zx_out g hrt hno (by decide) (by decide) ⟨rfl, Or.inr (⟨by simp [cAppeal, hF, hcl, h41], rfl⟩)⟩) (fun _ _ h => by cases h.1)
  · have h41 : gA S 41 j = 1 := c_11
    refine z_aload_n g dX10_appeal_14 rfl ?_
    refine z_getI g fl_X10_76 (by assumption) (by decide) rfl dX10_appeal_15 ?_
    rw [show fI M x 10 = gi S 1 from qs.1]
    refine z_aload_n g dX10_appeal_18 rfl ?_
    refine z_getI g fl_X10_230 (by assumption) (by decide) rfl dX10_appeal_19 ?_
    rw [z8]
    refine z_isub g dX10_appeal_22 ?_
    refine z_bipush (v := 60) g dX10_appeal_23 (by decide) ?_
    refine z_icmp_gt (tgt := 32) g dX10_appeal_25 (by decide) (fun c_25 => ?_) (fun c_25 => ?_)
    · have h60 : ¬ gi S 1 - gA S 45 j ≤ 60 := Int32.not_le.mpr c_25
      refine z_iconst (v := 0) g dX10_appeal_32 (by decide) ?_
      exact z_callS g _ _ cs_X10_71 (c_needSt _ M false) rfl (by rw [hR]; decide) (by rw [hR]; decide) (by rw [hR]; decide) (Nat.le_of_ble_eq_true rfl) rfl dX10_appeal_33 (fun E9 M9 h9 => by obtain ⟨-, rfl, rfl⟩ := h9; exact zx_out g hrt hno (by decide) (by decide) ⟨rfl, Or.inr (⟨by simp [cAppeal, hF, hcl, h41, h60], rfl⟩)⟩) (fun _ _ h => by cases h.1)
    · have h60 : gi S 1 - gA S 45 j ≤ 60 := Int32.not_lt.mp c_25
      refine z_iconst (v := 1) g dX10_appeal_28 (by decide) ?_
      refine z_goto (tgt := 33) g dX10_appeal_29 (by decide) ?_
      refine z_callS g _ _ cs_X10_71 (c_needSt _ M true) rfl (by rw [hR]; decide) (by rw [hR]; decide) (by rw [hR]; decide) (Nat.le_of_ble_eq_true rfl) rfl dX10_appeal_33 (fun _ _ h => by cases h.1) (fun r_33 M_33 h_33 => ?_)
      obtain ⟨-, rfl, rfl⟩ := h_33
      have h9r := z9 h41
      have hr46 : ca S 46 j < cn S 17 := ((hV.2.2.2.2.2.2.1 j hj).2.2.2.2.2.2.2.2.2.2 (Or.inl (by unfold ca; rw [h41]; rfl))).2
      have k7 : kd M (B 7 (ca S 46 j)) % 1000 = 7 := by rw [(qm.2 _ hr46).2.1]; omega
      have hx8 : x ≠ elt M (B 402 0) j := fun z => by have := qx.1; rw [z, k8a] at this; omega
      have hx7 : x ≠ B 7 (ca S 46 j) := fun z => by have h1 := qx.1; rw [z] at h1; rw [h1] at k7; cases k7
      have h87 : elt M (B 402 0) j ≠ B 7 (ca S 46 j) := fun z => by rw [z, k7] at k8; cases k8
      refine z_aload_n g dX10_appeal_36 rfl ?_
      refine z_iconst (v := 3) g dX10_appeal_37 (by decide) ?_
      refine z_putI g fp_X10_209 k8 (by decide) rfl (fun h => nomatch h) dX10_appeal_38 ?_
      refine z_aload_n g dX10_appeal_41 rfl ?_
      refine z_getR g fl_X10_250 k8 (by decide) rfl h9r dX10_appeal_42 ?_
      refine z_astore_n g dX10_appeal_45 (by rw [hN]; decide) ?_
      refine z_aload_n g dX10_appeal_46 rfl ?_
      refine z_ifnull g dX10_appeal_47 ?_
      refine z_aload_n g dX10_appeal_50 rfl ?_
      refine z_iconst (v := 1) g dX10_appeal_51 (by decide) ?_
      refine z_putZ g fp_X10_254 k7 (by decide) rfl (fun h => nomatch h) (Or.inr rfl) dX10_appeal_52 ?_
      refine z_aload_n g dX10_appeal_55 rfl ?_
      refine z_aload_n g dX10_appeal_56 rfl ?_
      refine z_getI g fl_X10_76 k11 (by decide) rfl dX10_appeal_57 ?_
      rw [show fI (sI (sI M (elt M (B 402 0) j) 4 3) (B 7 (ca S 46 j)) 4 1) x 10 = gi S 1 from (fI_o hx7).trans ((fI_o hx8).trans qs.1)]
      refine z_putI g fp_X10_257 k7 (by decide) rfl (fun h => nomatch h) dX10_appeal_60 ?_
      refine z_aload_n g dX10_appeal_63 rfl ?_
      refine z_getI g fl_X10_76 k11 (by decide) rfl dX10_appeal_64 ?_
      rw [show fI (sI (sI (sI M (elt M (B 402 0) j) 4 3) (B 7 (ca S 46 j)) 4 1) (B 7 (ca S 46 j)) 5 (gi S 1)) x 10 = gi S 1 from (fI_o hx7).trans ((fI_o hx7).trans ((fI_o hx8).trans qs.1))]
      refine z_aload_n g dX10_appeal_67 rfl ?_
      refine z_getI g fl_X10_230 k8 (by decide) rfl dX10_appeal_68 ?_
      rw [show fI (sI (sI (sI M (elt M (B 402 0) j) 4 3) (B 7 (ca S 46 j)) 4 1) (B 7 (ca S 46 j)) 5 (gi S 1)) (elt M (B 402 0) j) 8 = gA S 45 j from (fI_o h87).trans ((fI_o h87).trans ((fI_k (by decide)).trans z8))]
      refine z_isub g dX10_appeal_71 ?_
      exact z_iret g hrt rfl (by decide) (by decide) dX10_appeal_72 ⟨by simp [cAppeal, hF, hcl, h41, h60], by unfold vAppeal; rw [hcl], (RX_appeal hX0 hV hj h41).2, B, by unfold sAppeal; rw [hcl]; exact (RX_appeal hX0 hV hj h41).1⟩
