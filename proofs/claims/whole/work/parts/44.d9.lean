/-! ===== the model: protests, deciding, appeals, petitionOf, census, disputes (printed by gen/mod_d9.py) ===== -/
set_option maxHeartbeats 4000000 in
set_option maxRecDepth 100000 in
theorem m_protest (E : Ev) {A : Nat → Nat} {m : Nat} {S : Ms} (M : Mm) (hM : RM A m S M) (hV : INV S) (p c : Int32) : CT E yX11_protest cX11_protest 4 (some .boolean) 4 0 0 [.ref m, .int p, .int c] M (mAns A m (opS (cProtest S p c) S (sProtest S p c)) M (some (.int (b2i (opV (cProtest S p c) (vProtest S p c) false))))) noX := by
  refine CT.of rfl (Nat.le_of_ble_eq_true rfl) (fun X g hrt hno hE hN hR hI => ?_)
  subst hE
  obtain ⟨v1, v2, v17, v24, v31, v36, v51, v58, v59⟩ := hV.1
  have hV0 := hV
  obtain ⟨-, vF, vN, vM, vL, vX, vP, vQ, vT, vR, vS, vO⟩ := hV
  have fr0 := FM.rf (A := A) (m := m) (M := M)
  rcases inN (n := cn S 36) (by have := v36.2; omega) p with hF | ⟨j, hj, rfl, hF⟩
  · rw [← v36.1] at hF
    refine z_aload_n g dX11_protest_0 rfl ?_
    refine z_iload_n g dX11_protest_1 rfl ?_
    refine z_callV g _ _ cv_X11_282 (n_isPt _ M hM p) hM.k0 (by decide) rfl (by rw [hR]; decide) (by rw [hR]; decide) (by rw [hR]; decide) (Nat.le_of_ble_eq_true rfl) rfl dX11_protest_2 (fun _ _ h => False.elim h) (fun r_2 M_2 h_2 => ?_)
    obtain ⟨rfl, rfl⟩ := h_2
    rw [hF]
    refine z_if_eq (tgt := 22) g dX11_protest_5 (by decide) (fun _ => ?_) (fun c_5 => absurd c_5 (by decide))
    refine z_iconst (v := 0) g dX11_protest_22 (by decide) ?_
    refine z_istore_n g dX11_protest_23 (by rw [hN]; decide) ?_
    refine z_aload_n g dX11_protest_24 rfl ?_
    refine z_iload_n g dX11_protest_25 rfl ?_
    refine z_if_ne (tgt := 33) g dX11_protest_26 (by decide) (fun c_26 => absurd c_26 (by decide)) (fun _ => ?_)
    refine z_iconst (v := 1) g dX11_protest_29 (by decide) ?_
    refine z_goto (tgt := 47) g dX11_protest_30 (by decide) ?_
    have hc : cProtest S p c = 1 := by simp [cProtest, isP, hF]
    refine z_callV g _ _ cv_X11_234 (n_holds _ M hM fr0 1) hM.k0 (by decide) rfl (by rw [hR]; decide) (by rw [hR]; decide) (by rw [hR]; decide) (Nat.le_of_ble_eq_true rfl) rfl dX11_protest_47 (fun _ _ h => False.elim h) (fun r_47 M1 h_47 => ?_)
    obtain ⟨rfl, hM1, fr1⟩ := h_47
    refine z_if_ne (tgt := 55) g dX11_protest_50 (by decide) (fun c_50 => absurd c_50 (by decide)) (fun _ => ?_)
    refine z_iconst (v := 0) g dX11_protest_53 (by decide) ?_
    exact z_iret g hrt (by decide) (by decide) (by decide) dX11_protest_54 ⟨by rw [hc, opV_1]; rfl, by rw [hc, opS_1]; exact hM1, fr1⟩
  · rw [← v36.1] at hF
    have hj24 : j < 16 := by have := v36.2; omega
    refine z_aload_n g dX11_protest_0 rfl ?_
    refine z_iload_n g dX11_protest_1 rfl ?_
    refine z_callV g _ _ cv_X11_282 (n_isPt _ M hM (nI j)) hM.k0 (by decide) rfl (by rw [hR]; decide) (by rw [hR]; decide) (by rw [hR]; decide) (Nat.le_of_ble_eq_true rfl) rfl dX11_protest_2 (fun _ _ h => False.elim h) (fun r_2 M_2 h_2 => ?_)
    obtain ⟨rfl, rfl⟩ := h_2
    rw [hF]
    have hcl : (nI j).toNatClampNeg = j := nI_clamp (by omega)
    refine z_if_eq (tgt := 22) g dX11_protest_5 (by decide) (fun c => absurd c (by decide)) (fun _ => ?_)
    refine z_iload_n g dX11_protest_8 rfl ?_
    refine z_iconst (v := 0) g dX11_protest_9 (by decide) ?_
    refine z_bipush (v := 7) g dX11_protest_10 (by decide) ?_
    refine z_callS g _ _ cs_X11_189 (n_in _ M c 0 7) rfl (by rw [hR]; decide) (by rw [hR]; decide) (by rw [hR]; decide) (Nat.le_of_ble_eq_true rfl) rfl dX11_protest_12 (fun _ _ h => False.elim h) (fun r_12 M_12 h_12 => ?_)
    obtain ⟨rfl, rfl⟩ := h_12
    refine z_if_eq (tgt := 22) g dX11_protest_15 (by decide) (fun c_15 => ?_) (fun c_15 => ?_)
    · first | rw [b2i_0] at c_15 | rw [b2i_n0] at c_15 | skip
      refine z_iconst (v := 0) g dX11_protest_22 (by decide) ?_
      refine z_istore_n g dX11_protest_23 (by rw [hN]; decide) ?_
      refine z_aload_n g dX11_protest_24 rfl ?_
      refine z_iload_n g dX11_protest_25 rfl ?_
      refine z_if_ne (tgt := 33) g dX11_protest_26 (by decide) (fun c_26 => absurd c_26 (by decide)) (fun _ => ?_)
      refine z_iconst (v := 1) g dX11_protest_29 (by decide) ?_
      refine z_goto (tgt := 47) g dX11_protest_30 (by decide) ?_
      have hc : cProtest S (nI j) c = 1 := by simp [cProtest, isP, hF, hcl, c_15]
      refine z_callV g _ _ cv_X11_234 (n_holds _ M hM fr0 1) hM.k0 (by decide) rfl (by rw [hR]; decide) (by rw [hR]; decide) (by rw [hR]; decide) (Nat.le_of_ble_eq_true rfl) rfl dX11_protest_47 (fun _ _ h => False.elim h) (fun r_47 M1 h_47 => ?_)
      obtain ⟨rfl, hM1, fr1⟩ := h_47
      refine z_if_ne (tgt := 55) g dX11_protest_50 (by decide) (fun c_50 => absurd c_50 (by decide)) (fun _ => ?_)
      refine z_iconst (v := 0) g dX11_protest_53 (by decide) ?_
      exact z_iret g hrt (by decide) (by decide) (by decide) dX11_protest_54 ⟨by rw [hc, opV_1]; rfl, by rw [hc, opS_1]; exact hM1, fr1⟩
    · first | rw [b2i_0] at c_15 | rw [b2i_n0] at c_15 | skip
      refine z_iconst (v := 1) g dX11_protest_18 (by decide) ?_
      refine z_goto (tgt := 23) g dX11_protest_19 (by decide) ?_
      refine z_istore_n g dX11_protest_23 (by rw [hN]; decide) ?_
      refine z_aload_n g dX11_protest_24 rfl ?_
      refine z_iload_n g dX11_protest_25 rfl ?_
      refine z_if_ne (tgt := 33) g dX11_protest_26 (by decide) (fun _ => ?_) (fun c_26 => absurd c_26 (by decide))
      refine z_aload_n g dX11_protest_33 rfl ?_
      refine z_getR g fl_X11_113 hM.k0 (by decide) rfl (hM.ref (k := 41) (by decide)) dX11_protest_34 ?_
      refine z_iload_n g dX11_protest_37 rfl ?_
      refine z_ialdk g (hM.kA1 (k := 41) (by decide)) (by decide) (vp_in_nI (by rw [hM.lnI (k := 41) (by decide)]; show _ < 16; omega) (by rw [hM.lnI (k := 41) (by decide)]; decide)) dX11_protest_38 ?_
      rw [nI_clamp (by omega), show fI _ (A 41) = gA S 41 from hM.row (k := 41) (by decide) (by decide)]
      refine z_if_ne (tgt := 46) g dX11_protest_39 (by decide) (fun c_39 => ?_) (fun c_39 => ?_)
      · refine z_iconst (v := 2) g dX11_protest_46 (by decide) ?_
        have hc : cProtest S (nI j) c = 2 := by simp [cProtest, isP, hF, hcl, c_15, eq_false c_39]
        refine z_callV g _ _ cv_X11_234 (n_holds _ M hM fr0 2) hM.k0 (by decide) rfl (by rw [hR]; decide) (by rw [hR]; decide) (by rw [hR]; decide) (Nat.le_of_ble_eq_true rfl) rfl dX11_protest_47 (fun _ _ h => False.elim h) (fun r_47 M2 h_47 => ?_)
        obtain ⟨rfl, hM2, fr2⟩ := h_47
        refine z_if_ne (tgt := 55) g dX11_protest_50 (by decide) (fun c_50 => absurd c_50 (by decide)) (fun _ => ?_)
        refine z_iconst (v := 0) g dX11_protest_53 (by decide) ?_
        exact z_iret g hrt (by decide) (by decide) (by decide) dX11_protest_54 ⟨by rw [hc, opV_2]; rfl, by rw [hc, opS_2]; exact hM2, fr2⟩
      · refine z_iconst (v := 0) g dX11_protest_42 (by decide) ?_
        refine z_goto (tgt := 47) g dX11_protest_43 (by decide) ?_
        have hc : cProtest S (nI j) c = 0 := by simp [cProtest, isP, hF, hcl, c_15, eq_true c_39]
        refine z_callV g _ _ cv_X11_234 (n_holds _ M hM fr0 0) hM.k0 (by decide) rfl (by rw [hR]; decide) (by rw [hR]; decide) (by rw [hR]; decide) (Nat.le_of_ble_eq_true rfl) rfl dX11_protest_47 (fun _ _ h => False.elim h) (fun r_47 M3 h_47 => ?_)
        obtain ⟨rfl, hM3, fr3⟩ := h_47
        refine z_if_ne (tgt := 55) g dX11_protest_50 (by decide) (fun _ => ?_) (fun c_50 => absurd c_50 (by decide))
        refine z_aload_n g dX11_protest_55 rfl ?_
        refine z_getR g fl_X11_122 hM3.k0 (by decide) rfl (hM3.ref (k := 44) (by decide)) dX11_protest_56 ?_
        refine z_iload_n g dX11_protest_59 rfl ?_
        refine z_dup2 g dX11_protest_60 rfl rfl ?_
        refine z_ialdk g (hM3.kA1 (k := 44) (by decide)) (by decide) (vp_in_nI (by rw [hM3.lnI (k := 44) (by decide)]; show _ < 16; omega) (by rw [hM3.lnI (k := 44) (by decide)]; decide)) dX11_protest_61 ?_
        rw [nI_clamp (by omega), show fI _ (A 44) = gA S 44 from hM3.row (k := 44) (by decide) (by decide)]
        refine z_iconst (v := 1) g dX11_protest_62 (by decide) ?_
        refine z_iload_n g dX11_protest_63 rfl ?_
        refine z_ishl g dX11_protest_64 ?_
        refine z_ixor g dX11_protest_65 ?_
        refine m_iast g hM3 fr3 44 (by decide) (by show _ < 16; omega) dX11_protest_66 (fun M4 hM4 fr4 => ?_)
        refine z_aload_n g dX11_protest_67 rfl ?_
        refine z_getR g fl_X11_122 hM4.k0 (by decide) rfl (hM4.ref (k := 44) (by decide)) dX11_protest_68 ?_
        refine z_iload_n g dX11_protest_71 rfl ?_
        refine z_ialdk g (hM4.kA1 (k := 44) (by decide)) (by decide) (vp_in_nI (by rw [hM4.lnI (k := 44) (by decide)]; show _ < 16; omega) (by rw [hM4.lnI (k := 44) (by decide)]; decide)) dX11_protest_72 ?_
        rw [nI_clamp (by omega), show fI _ (A 44) j = gA S 44 j ^^^ 1 <<< (c &&& 31) from by rw [hM4.row (k := 44) (by decide) (by decide)]; exact if_pos ⟨rfl, rfl⟩]
        refine z_iload_n g dX11_protest_73 rfl ?_
        refine z_ishr g dX11_protest_74 ?_
        refine z_iconst (v := 1) g dX11_protest_75 (by decide) ?_
        refine z_iand g dX11_protest_76 ?_
        refine z_iconst (v := 1) g dX11_protest_77 (by decide) ?_
        refine z_icmp_ne (tgt := 85) g dX11_protest_78 (by decide) (fun c_78 => ?_) (fun c_78 => ?_)
        · refine z_iconst (v := 0) g dX11_protest_85 (by decide) ?_
          exact z_iret g hrt (by decide) (by decide) (by decide) dX11_protest_86 ⟨by rw [hc, opV_0, vProtest, hcl, decide_eq_false c_78]; rfl, by rw [hc, opS_0, sProtest, hcl]; exact hM4, fr4⟩
        · refine z_iconst (v := 1) g dX11_protest_81 (by decide) ?_
          refine z_goto (tgt := 86) g dX11_protest_82 (by decide) ?_
          exact z_iret g hrt (by decide) (by decide) (by decide) dX11_protest_86 ⟨by rw [hc, opV_0, vProtest, hcl, decide_eq_true c_78]; rfl, by rw [hc, opS_0, sProtest, hcl]; exact hM4, fr4⟩
set_option maxHeartbeats 4000000 in
set_option maxRecDepth 100000 in
theorem n_cnD (E : Ev) {A : Nat → Nat} {m : Nat} {S : Ms} (M : Mm) (hM : RM A m S M) (p : Nat) (hp : p < 16) (h42 : Ar S 42 p 511) (h43 : Ar S 43 p 511) : CT E yX11_canDecide cX11_canDecide 2 (some .boolean) 2 0 0 [.ref m, .int (nI p)] M (ansI (b2i (cnD S p)) M) noX := by
  refine CT.of rfl (Nat.le_of_ble_eq_true rfl) (fun X g hrt hno hE hN hR hI => ?_)
  subst hE
  have hb4 : ca S 42 p < 2 ^ 9 := by have := h42.2; omega
  have hb3 : ca S 43 p < 2 ^ 9 := by have := h43.2; omega
  have hb5 : (ca S 42 p ||| ca S 43 p) < 2 ^ 9 := Nat.or_lt_two_pow hb4 hb3
  refine z_aload_n g dX11_canDecide_0 rfl ?_
  refine z_getR g fl_X11_113 hM.k0 (by decide) rfl (hM.ref (k := 41) (by decide)) dX11_canDecide_1 ?_
  refine z_iload_n g dX11_canDecide_4 rfl ?_
  refine z_ialdk g (hM.kA1 (k := 41) (by decide)) (by decide) (vp_in_nI (by rw [hM.lnI (k := 41) (by decide)]; show _ < 16; omega) (by rw [hM.lnI (k := 41) (by decide)]; decide)) dX11_canDecide_5 ?_
  rw [nI_clamp (by omega), hM.row (k := 41) (by decide) (by decide)]
  refine z_if_ne (tgt := 64) g dX11_canDecide_6 (by decide) (fun c_6 => ?_) (fun c_6 => ?_)
  · refine z_iconst (v := 0) g dX11_canDecide_64 (by decide) ?_
    exact z_iret g hrt (by decide) (by decide) (by decide) dX11_canDecide_65 ⟨by simp [cnD, b2i, c_6], rfl⟩
  · refine z_aload_n g dX11_canDecide_9 rfl ?_
    refine z_getI g fl_X11_238 hM.k0 (by decide) rfl dX11_canDecide_10 ?_
    rw [hM.sc (k := 1) (by decide) (by decide)]
    refine z_aload_n g dX11_canDecide_13 rfl ?_
    refine z_getR g fl_X11_110 hM.k0 (by decide) rfl (hM.ref (k := 40) (by decide)) dX11_canDecide_14 ?_
    refine z_iload_n g dX11_canDecide_17 rfl ?_
    refine z_ialdk g (hM.kA1 (k := 40) (by decide)) (by decide) (vp_in_nI (by rw [hM.lnI (k := 40) (by decide)]; show _ < 16; omega) (by rw [hM.lnI (k := 40) (by decide)]; decide)) dX11_canDecide_18 ?_
    rw [nI_clamp (by omega), hM.row (k := 40) (by decide) (by decide)]
    refine z_icmp_ge (tgt := 64) g dX11_canDecide_19 (by decide) (fun c_19 => ?_) (fun c_19 => ?_)
    · refine z_iconst (v := 0) g dX11_canDecide_64 (by decide) ?_
      exact z_iret g hrt (by decide) (by decide) (by decide) dX11_canDecide_65 ⟨by simp [cnD, b2i, c_6, c_19], rfl⟩
    · refine z_aload_n g dX11_canDecide_22 rfl ?_
      refine z_getR g fl_X11_116 hM.k0 (by decide) rfl (hM.ref (k := 42) (by decide)) dX11_canDecide_23 ?_
      refine z_iload_n g dX11_canDecide_26 rfl ?_
      refine z_ialdk g (hM.kA1 (k := 42) (by decide)) (by decide) (vp_in_nI (by rw [hM.lnI (k := 42) (by decide)]; show _ < 16; omega) (by rw [hM.lnI (k := 42) (by decide)]; decide)) dX11_canDecide_27 ?_
      rw [nI_clamp (by omega), hM.row (k := 42) (by decide) (by decide)]
      rw [h42.1]
      refine z_aload_n g dX11_canDecide_28 rfl ?_
      refine z_getR g fl_X11_119 hM.k0 (by decide) rfl (hM.ref (k := 43) (by decide)) dX11_canDecide_29 ?_
      refine z_iload_n g dX11_canDecide_32 rfl ?_
      refine z_ialdk g (hM.kA1 (k := 43) (by decide)) (by decide) (vp_in_nI (by rw [hM.lnI (k := 43) (by decide)]; show _ < 16; omega) (by rw [hM.lnI (k := 43) (by decide)]; decide)) dX11_canDecide_33 ?_
      rw [nI_clamp (by omega), hM.row (k := 43) (by decide) (by decide)]
      rw [h43.1]
      refine z_ior g dX11_canDecide_34 ?_
      rw [nI_or]
      refine z_callS g _ _ cs_X11_285 (n_bits _ M (ca S 42 p ||| ca S 43 p) (by omega)) rfl (by rw [hR]; decide) (by rw [hR]; decide) (by rw [hR]; decide) (Nat.le_of_ble_eq_true rfl) rfl dX11_canDecide_35 (fun _ _ h => False.elim h) (fun r_35 M_35 h_35 => ?_)
      obtain ⟨rfl, rfl⟩ := h_35
      refine z_iconst (v := 5) g dX11_canDecide_38 (by decide) ?_
      refine z_icmp_lt (tgt := 64) g dX11_canDecide_39 (by decide) (fun c_39 => ?_) (fun c_39 => ?_)
      · refine z_iconst (v := 0) g dX11_canDecide_64 (by decide) ?_
        exact z_iret g hrt (by decide) (by decide) (by decide) dX11_canDecide_65 ⟨by simp [cnD, b2i, c_6, c_19, c_39], rfl⟩
      · refine z_aload_n g dX11_canDecide_42 rfl ?_
        refine z_getR g fl_X11_122 hM.k0 (by decide) rfl (hM.ref (k := 44) (by decide)) dX11_canDecide_43 ?_
        refine z_iload_n g dX11_canDecide_46 rfl ?_
        refine z_ialdk g (hM.kA1 (k := 44) (by decide)) (by decide) (vp_in_nI (by rw [hM.lnI (k := 44) (by decide)]; show _ < 16; omega) (by rw [hM.lnI (k := 44) (by decide)]; decide)) dX11_canDecide_47 ?_
        rw [nI_clamp (by omega), hM.row (k := 44) (by decide) (by decide)]
        refine z_if_ne (tgt := 64) g dX11_canDecide_48 (by decide) (fun c_48 => ?_) (fun c_48 => ?_)
        · refine z_iconst (v := 0) g dX11_canDecide_64 (by decide) ?_
          exact z_iret g hrt (by decide) (by decide) (by decide) dX11_canDecide_65 ⟨by simp [cnD, b2i, c_6, c_19, c_39, c_48], rfl⟩
        · refine z_aload_n g dX11_canDecide_51 rfl ?_
          refine z_getI g fl_X11_201 hM.k0 (by decide) rfl dX11_canDecide_52 ?_
          rw [hM.sc (k := 17) (by decide) (by decide)]
          refine z_bipush (v := 100) g dX11_canDecide_55 (by decide) ?_
          refine z_icmp_ge (tgt := 64) g dX11_canDecide_57 (by decide) (fun c_57 => ?_) (fun c_57 => ?_)
          · refine z_iconst (v := 0) g dX11_canDecide_64 (by decide) ?_
            exact z_iret g hrt (by decide) (by decide) (by decide) dX11_canDecide_65 ⟨by simp [cnD, b2i, c_6, c_19, c_39, c_48, c_57], rfl⟩
          · refine z_iconst (v := 1) g dX11_canDecide_60 (by decide) ?_
            refine z_goto (tgt := 65) g dX11_canDecide_61 (by decide) ?_
            exact z_iret g hrt (by decide) (by decide) (by decide) dX11_canDecide_65 ⟨by simp [cnD, b2i, c_6, c_19, c_39, c_48, c_57], rfl⟩
set_option maxHeartbeats 4000000 in
set_option maxRecDepth 100000 in
theorem m_decide (E : Ev) {A : Nat → Nat} {m : Nat} {S : Ms} (M : Mm) (hM : RM A m S M) (hV : INV S) (p : Int32) : CT E yX11_decide cX11_decide 5 (some .int) 6 0 0 [.ref m, .int p] M (mAns A m (opS (cDecide S p) S (sDecide S p)) M (some (.int (opV (cDecide S p) (vDecide S p) 0)))) noX := by
  refine CT.of rfl (Nat.le_of_ble_eq_true rfl) (fun X g hrt hno hE hN hR hI => ?_)
  subst hE
  obtain ⟨v1, v2, v17, v24, v31, v36, v51, v58, v59⟩ := hV.1
  have hV0 := hV
  obtain ⟨-, vF, vN, vM, vL, vX, vP, vQ, vT, vR, vS, vO⟩ := hV
  have fr0 := FM.rf (A := A) (m := m) (M := M)
  rcases inN (n := cn S 36) (by have := v36.2; omega) p with hF | ⟨j, hj, rfl, hF⟩
  · rw [← v36.1] at hF
    refine z_aload_n g dX11_decide_0 rfl ?_
    refine z_iload_n g dX11_decide_1 rfl ?_
    refine z_callV g _ _ cv_X11_282 (n_isPt _ M hM p) hM.k0 (by decide) rfl (by rw [hR]; decide) (by rw [hR]; decide) (by rw [hR]; decide) (Nat.le_of_ble_eq_true rfl) rfl dX11_decide_2 (fun _ _ h => False.elim h) (fun r_2 M_2 h_2 => ?_)
    obtain ⟨rfl, rfl⟩ := h_2
    rw [hF]
    refine z_istore_n g dX11_decide_5 (by rw [hN]; decide) ?_
    refine z_aload_n g dX11_decide_6 rfl ?_
    refine z_iload_n g dX11_decide_7 rfl ?_
    refine z_if_ne (tgt := 15) g dX11_decide_8 (by decide) (fun c_8 => absurd c_8 (by decide)) (fun _ => ?_)
    refine z_iconst (v := 1) g dX11_decide_11 (by decide) ?_
    refine z_goto (tgt := 28) g dX11_decide_12 (by decide) ?_
    have hc : cDecide S p = 1 := by simp [cDecide, isP, hF]
    refine z_callV g _ _ cv_X11_234 (n_holds _ M hM fr0 1) hM.k0 (by decide) rfl (by rw [hR]; decide) (by rw [hR]; decide) (by rw [hR]; decide) (Nat.le_of_ble_eq_true rfl) rfl dX11_decide_28 (fun _ _ h => False.elim h) (fun r_28 M1 h_28 => ?_)
    obtain ⟨rfl, hM1, fr1⟩ := h_28
    refine z_if_ne (tgt := 36) g dX11_decide_31 (by decide) (fun c_31 => absurd c_31 (by decide)) (fun _ => ?_)
    refine z_iconst (v := 0) g dX11_decide_34 (by decide) ?_
    exact z_iret g hrt rfl (by decide) (by decide) dX11_decide_35 ⟨by rw [hc, opV_1], by rw [hc, opS_1]; exact hM1, fr1⟩
  · rw [← v36.1] at hF
    have hj24 : j < 16 := by have := v36.2; omega
    refine z_aload_n g dX11_decide_0 rfl ?_
    refine z_iload_n g dX11_decide_1 rfl ?_
    refine z_callV g _ _ cv_X11_282 (n_isPt _ M hM (nI j)) hM.k0 (by decide) rfl (by rw [hR]; decide) (by rw [hR]; decide) (by rw [hR]; decide) (Nat.le_of_ble_eq_true rfl) rfl dX11_decide_2 (fun _ _ h => False.elim h) (fun r_2 M_2 h_2 => ?_)
    obtain ⟨rfl, rfl⟩ := h_2
    rw [hF]
    refine z_istore_n g dX11_decide_5 (by rw [hN]; decide) ?_
    refine z_aload_n g dX11_decide_6 rfl ?_
    refine z_iload_n g dX11_decide_7 rfl ?_
    have hcl : (nI j).toNatClampNeg = j := nI_clamp (by omega)
    obtain ⟨h37, h37b, h38, -, h40, -, h42, h43, -⟩ := vP j hj
    have hb4 : ca S 42 j < 2 ^ 9 := by have := h42.2; omega
    have hb3 : ca S 43 j < 2 ^ 9 := by have := h43.2; omega
    refine z_if_ne (tgt := 15) g dX11_decide_8 (by decide) (fun _ => ?_) (fun c => absurd c (by decide))
    refine z_aload_n g dX11_decide_15 rfl ?_
    refine z_iload_n g dX11_decide_16 rfl ?_
    refine z_callV g _ _ cv_X11_289 (n_cnD _ M hM j hj24 h42 h43) hM.k0 (by decide) rfl (by rw [hR]; decide) (by rw [hR]; decide) (by rw [hR]; decide) (Nat.le_of_ble_eq_true rfl) rfl dX11_decide_17 (fun _ _ h => False.elim h) (fun r_17 M_17 h_17 => ?_)
    obtain ⟨rfl, rfl⟩ := h_17
    refine z_if_eq (tgt := 27) g dX11_decide_20 (by decide) (fun c_20 => ?_) (fun c_20 => ?_)
    · first | rw [b2i_0] at c_20 | rw [b2i_n0] at c_20 | skip
      refine z_iconst (v := 2) g dX11_decide_27 (by decide) ?_
      have hc : cDecide S (nI j) = 2 := by simp [cDecide, isP, hF, hcl, c_20]
      refine z_callV g _ _ cv_X11_234 (n_holds _ M hM fr0 2) hM.k0 (by decide) rfl (by rw [hR]; decide) (by rw [hR]; decide) (by rw [hR]; decide) (Nat.le_of_ble_eq_true rfl) rfl dX11_decide_28 (fun _ _ h => False.elim h) (fun r_28 M1 h_28 => ?_)
      obtain ⟨rfl, hM1, fr1⟩ := h_28
      refine z_if_ne (tgt := 36) g dX11_decide_31 (by decide) (fun c_31 => absurd c_31 (by decide)) (fun _ => ?_)
      refine z_iconst (v := 0) g dX11_decide_34 (by decide) ?_
      exact z_iret g hrt rfl (by decide) (by decide) dX11_decide_35 ⟨by rw [hc, opV_2], by rw [hc, opS_2]; exact hM1, fr1⟩
    · first | rw [b2i_0] at c_20 | rw [b2i_n0] at c_20 | skip
      refine z_iconst (v := 0) g dX11_decide_23 (by decide) ?_
      refine z_goto (tgt := 28) g dX11_decide_24 (by decide) ?_
      have hc : cDecide S (nI j) = 0 := by simp [cDecide, isP, hF, hcl, c_20]
      refine z_callV g _ _ cv_X11_234 (n_holds _ M hM fr0 0) hM.k0 (by decide) rfl (by rw [hR]; decide) (by rw [hR]; decide) (by rw [hR]; decide) (Nat.le_of_ble_eq_true rfl) rfl dX11_decide_28 (fun _ _ h => False.elim h) (fun r_28 M2 h_28 => ?_)
      obtain ⟨rfl, hM2, fr2⟩ := h_28
      refine z_if_ne (tgt := 36) g dX11_decide_31 (by decide) (fun _ => ?_) (fun c_31 => absurd c_31 (by decide))
      refine z_aload_n g dX11_decide_36 rfl ?_
      refine z_getR g fl_X11_116 hM2.k0 (by decide) rfl (hM2.ref (k := 42) (by decide)) dX11_decide_37 ?_
      refine z_iload_n g dX11_decide_40 rfl ?_
      refine z_ialdk g (hM2.kA1 (k := 42) (by decide)) (by decide) (vp_in_nI (by rw [hM2.lnI (k := 42) (by decide)]; show _ < 16; omega) (by rw [hM2.lnI (k := 42) (by decide)]; decide)) dX11_decide_41 ?_
      rw [nI_clamp (by omega), show fI _ (A 42) = gA S 42 from hM2.row (k := 42) (by decide) (by decide)]
      rw [h42.1]
      refine z_callS g _ _ cs_X11_285 (n_bits _ _ (ca S 42 j) (by omega)) rfl (by rw [hR]; decide) (by rw [hR]; decide) (by rw [hR]; decide) (Nat.le_of_ble_eq_true rfl) rfl dX11_decide_42 (fun _ _ h => False.elim h) (fun r_42 M_42 h_42 => ?_)
      obtain ⟨rfl, rfl⟩ := h_42
      refine z_aload_n g dX11_decide_45 rfl ?_
      refine z_getR g fl_X11_119 hM2.k0 (by decide) rfl (hM2.ref (k := 43) (by decide)) dX11_decide_46 ?_
      refine z_iload_n g dX11_decide_49 rfl ?_
      refine z_ialdk g (hM2.kA1 (k := 43) (by decide)) (by decide) (vp_in_nI (by rw [hM2.lnI (k := 43) (by decide)]; show _ < 16; omega) (by rw [hM2.lnI (k := 43) (by decide)]; decide)) dX11_decide_50 ?_
      rw [nI_clamp (by omega), show fI _ (A 43) = gA S 43 from hM2.row (k := 43) (by decide) (by decide)]
      rw [h43.1]
      refine z_callS g _ _ cs_X11_285 (n_bits _ _ (ca S 43 j) (by omega)) rfl (by rw [hR]; decide) (by rw [hR]; decide) (by rw [hR]; decide) (Nat.le_of_ble_eq_true rfl) rfl dX11_decide_51 (fun _ _ h => False.elim h) (fun r_51 M_51 h_51 => ?_)
      obtain ⟨rfl, rfl⟩ := h_51
      refine z_icmp_le (tgt := 61) g dX11_decide_54 (by decide) (fun c_54 => ?_) (fun c_54 => ?_)
      · refine z_iconst (v := 0) g dX11_decide_61 (by decide) ?_
        refine z_istore_n g dX11_decide_62 (by rw [hN]; decide) ?_
        refine z_iload_n g dX11_decide_63 rfl ?_
        refine z_if_eq (tgt := 102) g dX11_decide_64 (by decide) (fun _ => ?_) (fun c_64 => absurd c_64 (by decide))
        refine z_iconst (v := 0) g dX11_decide_102 (by decide) ?_
        refine z_istore g dX11_decide_103 (by rw [hN]; decide) ?_
        have htk : takA S j = false := by simp [takA, eq_true c_54]
        refine z_aload_n g dX11_decide_105 rfl ?_
        refine z_getR g fl_X11_113 hM2.k0 (by decide) rfl (hM2.ref (k := 41) (by decide)) dX11_decide_106 ?_
        refine z_iload_n g dX11_decide_109 rfl ?_
        refine z_iload g dX11_decide_110 rfl ?_
        refine z_if_eq (tgt := 119) g dX11_decide_112 (by decide) (fun _ => ?_) (fun c_112 => absurd c_112 (by decide))
        refine z_iconst (v := 2) g dX11_decide_119 (by decide) ?_
        refine m_iast g hM2 fr2 41 (by decide) (by show _ < 16; omega) dX11_decide_120 (fun M3 hM3 fr3 => ?_)
        refine z_aload_n g dX11_decide_121 rfl ?_
        refine z_getR g fl_X11_125 hM3.k0 (by decide) rfl (hM3.ref (k := 45) (by decide)) dX11_decide_122 ?_
        refine z_iload_n g dX11_decide_125 rfl ?_
        refine z_aload_n g dX11_decide_126 rfl ?_
        refine z_getI g fl_X11_238 hM3.k0 (by decide) rfl dX11_decide_127 ?_
        rw [show fI _ m 1 = gi S 1 from hM3.sc (k := 1) (by decide) (by decide)]
        refine m_iast g hM3 fr3 45 (by decide) (by show _ < 16; omega) dX11_decide_130 (fun M4 hM4 fr4 => ?_)
        refine z_iload g dX11_decide_131 rfl ?_
        refine z_if_eq (tgt := 172) g dX11_decide_133 (by decide) (fun _ => ?_) (fun c_133 => absurd c_133 (by decide))
        refine z_aload_n g dX11_decide_172 rfl ?_
        refine z_getR g fl_X11_113 hM4.k0 (by decide) rfl (hM4.ref (k := 41) (by decide)) dX11_decide_173 ?_
        refine z_iload_n g dX11_decide_176 rfl ?_
        refine z_ialdk g (hM4.kA1 (k := 41) (by decide)) (by decide) (vp_in_nI (by rw [hM4.lnI (k := 41) (by decide)]; show _ < 16; omega) (by rw [hM4.lnI (k := 41) (by decide)]; decide)) dX11_decide_177 ?_
        rw [nI_clamp (by omega), show fI _ (A 41) j = 2 from by rw [hM4.row (k := 41) (by decide) (by decide)]; show gA (wA (wA (wi S 0 0) 41 j 2) 45 j (gi S 1)) 41 j = 2; rw [gA_wA, if_neg (by decide), gA_wA, if_pos rfl]; exact if_pos rfl]
        exact z_iret g hrt rfl (by decide) (by decide) dX11_decide_178 ⟨by rw [hc, opV_0, vDecide, hcl, htk]; rfl, by rw [hc, opS_0, sDecide, hcl, htk]; exact hM4, fr4⟩
      · refine z_iconst (v := 1) g dX11_decide_57 (by decide) ?_
        refine z_goto (tgt := 62) g dX11_decide_58 (by decide) ?_
        refine z_istore_n g dX11_decide_62 (by rw [hN]; decide) ?_
        refine z_iload_n g dX11_decide_63 rfl ?_
        refine z_if_eq (tgt := 102) g dX11_decide_64 (by decide) (fun c_64 => absurd c_64 (by decide)) (fun _ => ?_)
        refine z_aload_n g dX11_decide_67 rfl ?_
        refine z_aload_n g dX11_decide_68 rfl ?_
        refine z_getR g fl_X11_101 hM2.k0 (by decide) rfl (hM2.ref (k := 37) (by decide)) dX11_decide_69 ?_
        refine z_iload_n g dX11_decide_72 rfl ?_
        refine z_ialdk g (hM2.kA1 (k := 37) (by decide)) (by decide) (vp_in_nI (by rw [hM2.lnI (k := 37) (by decide)]; show _ < 16; omega) (by rw [hM2.lnI (k := 37) (by decide)]; decide)) dX11_decide_73 ?_
        rw [nI_clamp (by omega), show fI _ (A 37) = gA S 37 from hM2.row (k := 37) (by decide) (by decide)]
        rw [h37.1]
        refine z_aload_n g dX11_decide_74 rfl ?_
        refine z_getR g fl_X11_104 hM2.k0 (by decide) rfl (hM2.ref (k := 38) (by decide)) dX11_decide_75 ?_
        refine z_iload_n g dX11_decide_78 rfl ?_
        refine z_ialdk g (hM2.kA1 (k := 38) (by decide)) (by decide) (vp_in_nI (by rw [hM2.lnI (k := 38) (by decide)]; show _ < 16; omega) (by rw [hM2.lnI (k := 38) (by decide)]; decide)) dX11_decide_79 ?_
        rw [nI_clamp (by omega), show fI _ (A 38) = gA S 38 from hM2.row (k := 38) (by decide) (by decide)]
        refine z_aload_n g dX11_decide_80 rfl ?_
        refine z_getR g fl_X11_107 hM2.k0 (by decide) rfl (hM2.refL (k := 39) (by decide)) dX11_decide_81 ?_
        refine z_iload_n g dX11_decide_84 rfl ?_
        refine z_laldk g (hM2.kL1 (k := 39) (by decide)) (by decide) (vp_in_nI (by rw [hM2.lnL (k := 39) (by decide)]; show _ < 16; omega) (by rw [hM2.lnL (k := 39) (by decide)]; decide)) dX11_decide_85 ?_
        rw [nI_clamp (by omega), show fL _ (A 39) = gL S 39 from hM2.rowL (k := 39) (by decide)]
        refine z_aload_n g dX11_decide_86 rfl ?_
        refine z_getR g fl_X11_110 hM2.k0 (by decide) rfl (hM2.ref (k := 40) (by decide)) dX11_decide_87 ?_
        refine z_iload_n g dX11_decide_90 rfl ?_
        refine z_ialdk g (hM2.kA1 (k := 40) (by decide)) (by decide) (vp_in_nI (by rw [hM2.lnI (k := 40) (by decide)]; show _ < 16; omega) (by rw [hM2.lnI (k := 40) (by decide)]; decide)) dX11_decide_91 ?_
        rw [nI_clamp (by omega), show fI _ (A 40) = gA S 40 from hM2.row (k := 40) (by decide) (by decide)]
        refine z_callV g _ _ cv_X11_271 (n_ref _ M2 hM2 (INV_wi0 0 hV0) (ca S 37 j) h37b (gA S 38 j) (gL S 39 j) (gA S 40 j)) hM2.k0 (by decide) rfl (by rw [hR]; decide) (by rw [hR]; decide) (by rw [hR]; decide) (Nat.le_of_ble_eq_true rfl) rfl dX11_decide_92 (fun _ _ h => False.elim h) (fun r_92 M5 h_92 => ?_)
        obtain ⟨rfl, se_92⟩ := h_92
        have hM5 := hM2.SE se_92
        have fr5 := fr2.tr se_92.FM
        rw [refA_wi0]
        refine z_if_ne (tgt := 102) g dX11_decide_95 (by decide) (fun c_95 => ?_) (fun c_95 => ?_)
        · first | rw [b2i_0] at c_95 | rw [b2i_n0] at c_95 | skip
          refine z_iconst (v := 0) g dX11_decide_102 (by decide) ?_
          refine z_istore g dX11_decide_103 (by rw [hN]; decide) ?_
          have htk : takA S j = false := by simp [takA, eq_false c_54, c_95]
          refine z_aload_n g dX11_decide_105 rfl ?_
          refine z_getR g fl_X11_113 hM5.k0 (by decide) rfl (hM5.ref (k := 41) (by decide)) dX11_decide_106 ?_
          refine z_iload_n g dX11_decide_109 rfl ?_
          refine z_iload g dX11_decide_110 rfl ?_
          refine z_if_eq (tgt := 119) g dX11_decide_112 (by decide) (fun _ => ?_) (fun c_112 => absurd c_112 (by decide))
          refine z_iconst (v := 2) g dX11_decide_119 (by decide) ?_
          refine m_iast g hM5 fr5 41 (by decide) (by show _ < 16; omega) dX11_decide_120 (fun M6 hM6 fr6 => ?_)
          refine z_aload_n g dX11_decide_121 rfl ?_
          refine z_getR g fl_X11_125 hM6.k0 (by decide) rfl (hM6.ref (k := 45) (by decide)) dX11_decide_122 ?_
          refine z_iload_n g dX11_decide_125 rfl ?_
          refine z_aload_n g dX11_decide_126 rfl ?_
          refine z_getI g fl_X11_238 hM6.k0 (by decide) rfl dX11_decide_127 ?_
          rw [show fI _ m 1 = gi S 1 from hM6.sc (k := 1) (by decide) (by decide)]
          refine m_iast g hM6 fr6 45 (by decide) (by show _ < 16; omega) dX11_decide_130 (fun M7 hM7 fr7 => ?_)
          refine z_iload g dX11_decide_131 rfl ?_
          refine z_if_eq (tgt := 172) g dX11_decide_133 (by decide) (fun _ => ?_) (fun c_133 => absurd c_133 (by decide))
          refine z_aload_n g dX11_decide_172 rfl ?_
          refine z_getR g fl_X11_113 hM7.k0 (by decide) rfl (hM7.ref (k := 41) (by decide)) dX11_decide_173 ?_
          refine z_iload_n g dX11_decide_176 rfl ?_
          refine z_ialdk g (hM7.kA1 (k := 41) (by decide)) (by decide) (vp_in_nI (by rw [hM7.lnI (k := 41) (by decide)]; show _ < 16; omega) (by rw [hM7.lnI (k := 41) (by decide)]; decide)) dX11_decide_177 ?_
          rw [nI_clamp (by omega), show fI _ (A 41) j = 2 from by rw [hM7.row (k := 41) (by decide) (by decide)]; show gA (wA (wA (wi S 0 0) 41 j 2) 45 j (gi S 1)) 41 j = 2; rw [gA_wA, if_neg (by decide), gA_wA, if_pos rfl]; exact if_pos rfl]
          exact z_iret g hrt rfl (by decide) (by decide) dX11_decide_178 ⟨by rw [hc, opV_0, vDecide, hcl, htk]; rfl, by rw [hc, opS_0, sDecide, hcl, htk]; exact hM7, fr7⟩
        · first | rw [b2i_0] at c_95 | rw [b2i_n0] at c_95 | skip
          refine z_iconst (v := 1) g dX11_decide_98 (by decide) ?_
          refine z_goto (tgt := 103) g dX11_decide_99 (by decide) ?_
          refine z_istore g dX11_decide_103 (by rw [hN]; decide) ?_
          have htk : takA S j = true := by simp [takA, eq_false c_54, c_95]
          refine z_aload_n g dX11_decide_105 rfl ?_
          refine z_getR g fl_X11_113 hM5.k0 (by decide) rfl (hM5.ref (k := 41) (by decide)) dX11_decide_106 ?_
          refine z_iload_n g dX11_decide_109 rfl ?_
          refine z_iload g dX11_decide_110 rfl ?_
          refine z_if_eq (tgt := 119) g dX11_decide_112 (by decide) (fun c_112 => absurd c_112 (by decide)) (fun _ => ?_)
          refine z_iconst (v := 1) g dX11_decide_115 (by decide) ?_
          refine z_goto (tgt := 120) g dX11_decide_116 (by decide) ?_
          refine m_iast g hM5 fr5 41 (by decide) (by show _ < 16; omega) dX11_decide_120 (fun M8 hM8 fr8 => ?_)
          refine z_aload_n g dX11_decide_121 rfl ?_
          refine z_getR g fl_X11_125 hM8.k0 (by decide) rfl (hM8.ref (k := 45) (by decide)) dX11_decide_122 ?_
          refine z_iload_n g dX11_decide_125 rfl ?_
          refine z_aload_n g dX11_decide_126 rfl ?_
          refine z_getI g fl_X11_238 hM8.k0 (by decide) rfl dX11_decide_127 ?_
          rw [show fI _ m 1 = gi S 1 from hM8.sc (k := 1) (by decide) (by decide)]
          refine m_iast g hM8 fr8 45 (by decide) (by show _ < 16; omega) dX11_decide_130 (fun M9 hM9 fr9 => ?_)
          refine z_iload g dX11_decide_131 rfl ?_
          refine z_if_eq (tgt := 172) g dX11_decide_133 (by decide) (fun c_133 => absurd c_133 (by decide)) (fun _ => ?_)
          refine z_aload_n g dX11_decide_136 rfl ?_
          refine z_getR g fl_X11_128 hM9.k0 (by decide) rfl (hM9.ref (k := 46) (by decide)) dX11_decide_137 ?_
          refine z_iload_n g dX11_decide_140 rfl ?_
          refine z_aload_n g dX11_decide_141 rfl ?_
          refine z_aload_n g dX11_decide_142 rfl ?_
          refine z_getR g fl_X11_101 hM9.k0 (by decide) rfl (hM9.ref (k := 37) (by decide)) dX11_decide_143 ?_
          refine z_iload_n g dX11_decide_146 rfl ?_
          refine z_ialdk g (hM9.kA1 (k := 37) (by decide)) (by decide) (vp_in_nI (by rw [hM9.lnI (k := 37) (by decide)]; show _ < 16; omega) (by rw [hM9.lnI (k := 37) (by decide)]; decide)) dX11_decide_147 ?_
          rw [nI_clamp (by omega), show fI _ (A 37) = gA S 37 from hM9.row (k := 37) (by decide) (by decide)]
          refine z_aload_n g dX11_decide_148 rfl ?_
          refine z_getR g fl_X11_104 hM9.k0 (by decide) rfl (hM9.ref (k := 38) (by decide)) dX11_decide_149 ?_
          refine z_iload_n g dX11_decide_152 rfl ?_
          refine z_ialdk g (hM9.kA1 (k := 38) (by decide)) (by decide) (vp_in_nI (by rw [hM9.lnI (k := 38) (by decide)]; show _ < 16; omega) (by rw [hM9.lnI (k := 38) (by decide)]; decide)) dX11_decide_153 ?_
          rw [nI_clamp (by omega), show fI _ (A 38) = gA S 38 from hM9.row (k := 38) (by decide) (by decide)]
          refine z_aload_n g dX11_decide_154 rfl ?_
          refine z_getR g fl_X11_107 hM9.k0 (by decide) rfl (hM9.refL (k := 39) (by decide)) dX11_decide_155 ?_
          refine z_iload_n g dX11_decide_158 rfl ?_
          refine z_laldk g (hM9.kL1 (k := 39) (by decide)) (by decide) (vp_in_nI (by rw [hM9.lnL (k := 39) (by decide)]; show _ < 16; omega) (by rw [hM9.lnL (k := 39) (by decide)]; decide)) dX11_decide_159 ?_
          rw [nI_clamp (by omega), show fL _ (A 39) = gL S 39 from hM9.rowL (k := 39) (by decide)]
          refine z_aload_n g dX11_decide_160 rfl ?_
          refine z_getR g fl_X11_110 hM9.k0 (by decide) rfl (hM9.ref (k := 40) (by decide)) dX11_decide_161 ?_
          refine z_iload_n g dX11_decide_164 rfl ?_
          refine z_ialdk g (hM9.kA1 (k := 40) (by decide)) (by decide) (vp_in_nI (by rw [hM9.lnI (k := 40) (by decide)]; show _ < 16; omega) (by rw [hM9.lnI (k := 40) (by decide)]; decide)) dX11_decide_165 ?_
          rw [nI_clamp (by omega), show fI _ (A 40) = gA S 40 from hM9.row (k := 40) (by decide) (by decide)]
          have h100 : cn S 17 < 100 := by
            rcases Nat.lt_or_ge (cn S 17) 100 with z | z
            · exact z
            · have h9 : (100 : Int32) ≤ gi S 17 := by rw [v17.1]; exact (nI_leI (a := 100) (by decide) (by have := v17.2; omega)).mpr z
              exfalso
              have hd := c_20
              rw [cnD, decide_eq_true h9] at hd
              simp at hd
          refine z_callV g _ _ cv_X11_275 (n_tells _ M9 hM9 fr9 v17.1 h100 (gA S 37 j) (gA S 38 j) (gL S 39 j) (gA S 40 j)) hM9.k0 (by decide) rfl (by rw [hR]; decide) (by rw [hR]; decide) (by rw [hR]; decide) (Nat.le_of_ble_eq_true rfl) rfl dX11_decide_166 (fun _ _ h => False.elim h) (fun r_166 M10 h_166 => ?_)
          obtain ⟨rfl, hM10, fr10⟩ := h_166
          refine z_iconst (v := 1) g dX11_decide_169 (by decide) ?_
          refine z_isub g dX11_decide_170 ?_
          refine m_iast g hM10 fr10 46 (by decide) (by show _ < 16; omega) dX11_decide_171 (fun M11 hM11 fr11 => ?_)
          refine z_aload_n g dX11_decide_172 rfl ?_
          refine z_getR g fl_X11_113 hM11.k0 (by decide) rfl (hM11.ref (k := 41) (by decide)) dX11_decide_173 ?_
          refine z_iload_n g dX11_decide_176 rfl ?_
          refine z_ialdk g (hM11.kA1 (k := 41) (by decide)) (by decide) (vp_in_nI (by rw [hM11.lnI (k := 41) (by decide)]; show _ < 16; omega) (by rw [hM11.lnI (k := 41) (by decide)]; decide)) dX11_decide_177 ?_
          rw [nI_clamp (by omega), show fI _ (A 41) j = 1 from by rw [hM11.row (k := 41) (by decide) (by decide)]; show gA (wA (wA (wi S 0 0) 41 j 1) 45 j (gi S 1)) 41 j = 1; rw [gA_wA, if_neg (by decide), gA_wA, if_pos rfl]; exact if_pos rfl]
          exact z_iret g hrt rfl (by decide) (by decide) dX11_decide_178 ⟨by rw [hc, opV_0, vDecide, hcl, htk]; rfl, by rw [hc, opS_0, sDecide, hcl, htk]; exact hM11, fr11⟩
set_option maxHeartbeats 4000000 in
set_option maxRecDepth 100000 in
theorem m_appeal (E : Ev) {A : Nat → Nat} {m : Nat} {S : Ms} (M : Mm) (hM : RM A m S M) (hV : INV S) (p : Int32) : CT E yX11_appeal cX11_appeal 3 (some .int) 4 0 0 [.ref m, .int p] M (mAns A m (opS (cAppeal S p) S (sAppeal S p)) M (some (.int (opV (cAppeal S p) (vAppeal S p) 0)))) noX := by
  refine CT.of rfl (Nat.le_of_ble_eq_true rfl) (fun X g hrt hno hE hN hR hI => ?_)
  subst hE
  obtain ⟨v1, v2, v17, v24, v31, v36, v51, v58, v59⟩ := hV.1
  have hV0 := hV
  obtain ⟨-, vF, vN, vM, vL, vX, vP, vQ, vT, vR, vS, vO⟩ := hV
  have fr0 := FM.rf (A := A) (m := m) (M := M)
  rcases inN (n := cn S 36) (by have := v36.2; omega) p with hF | ⟨j, hj, rfl, hF⟩
  · rw [← v36.1] at hF
    refine z_aload_n g dX11_appeal_0 rfl ?_
    refine z_iload_n g dX11_appeal_1 rfl ?_
    refine z_callV g _ _ cv_X11_282 (n_isPt _ M hM p) hM.k0 (by decide) rfl (by rw [hR]; decide) (by rw [hR]; decide) (by rw [hR]; decide) (Nat.le_of_ble_eq_true rfl) rfl dX11_appeal_2 (fun _ _ h => False.elim h) (fun r_2 M_2 h_2 => ?_)
    obtain ⟨rfl, rfl⟩ := h_2
    rw [hF]
    refine z_istore_n g dX11_appeal_5 (by rw [hN]; decide) ?_
    refine z_aload_n g dX11_appeal_6 rfl ?_
    refine z_iload_n g dX11_appeal_7 rfl ?_
    refine z_if_ne (tgt := 15) g dX11_appeal_8 (by decide) (fun c_8 => absurd c_8 (by decide)) (fun _ => ?_)
    refine z_iconst (v := 1) g dX11_appeal_11 (by decide) ?_
    refine z_goto (tgt := 46) g dX11_appeal_12 (by decide) ?_
    have hc : cAppeal S p = 1 := by simp [cAppeal, isP, hF]
    refine z_callV g _ _ cv_X11_234 (n_holds _ M hM fr0 1) hM.k0 (by decide) rfl (by rw [hR]; decide) (by rw [hR]; decide) (by rw [hR]; decide) (Nat.le_of_ble_eq_true rfl) rfl dX11_appeal_46 (fun _ _ h => False.elim h) (fun r_46 M1 h_46 => ?_)
    obtain ⟨rfl, hM1, fr1⟩ := h_46
    refine z_if_ne (tgt := 54) g dX11_appeal_49 (by decide) (fun c_49 => absurd c_49 (by decide)) (fun _ => ?_)
    refine z_iconst (v := 0) g dX11_appeal_52 (by decide) ?_
    exact z_iret g hrt rfl (by decide) (by decide) dX11_appeal_53 ⟨by rw [hc, opV_1], by rw [hc, opS_1]; exact hM1, fr1⟩
  · rw [← v36.1] at hF
    have hj24 : j < 16 := by have := v36.2; omega
    refine z_aload_n g dX11_appeal_0 rfl ?_
    refine z_iload_n g dX11_appeal_1 rfl ?_
    refine z_callV g _ _ cv_X11_282 (n_isPt _ M hM (nI j)) hM.k0 (by decide) rfl (by rw [hR]; decide) (by rw [hR]; decide) (by rw [hR]; decide) (Nat.le_of_ble_eq_true rfl) rfl dX11_appeal_2 (fun _ _ h => False.elim h) (fun r_2 M_2 h_2 => ?_)
    obtain ⟨rfl, rfl⟩ := h_2
    rw [hF]
    refine z_istore_n g dX11_appeal_5 (by rw [hN]; decide) ?_
    refine z_aload_n g dX11_appeal_6 rfl ?_
    refine z_iload_n g dX11_appeal_7 rfl ?_
    have hcl : (nI j).toNatClampNeg = j := nI_clamp (by omega)
    obtain ⟨-, -, -, -, -, h41, -, -, -, -, h46⟩ := vP j hj
    refine z_if_ne (tgt := 15) g dX11_appeal_8 (by decide) (fun _ => ?_) (fun c => absurd c (by decide))
    refine z_aload_n g dX11_appeal_15 rfl ?_
    refine z_getR g fl_X11_113 hM.k0 (by decide) rfl (hM.ref (k := 41) (by decide)) dX11_appeal_16 ?_
    refine z_iload_n g dX11_appeal_19 rfl ?_
    refine z_ialdk g (hM.kA1 (k := 41) (by decide)) (by decide) (vp_in_nI (by rw [hM.lnI (k := 41) (by decide)]; show _ < 16; omega) (by rw [hM.lnI (k := 41) (by decide)]; decide)) dX11_appeal_20 ?_
    rw [nI_clamp (by omega), show fI _ (A 41) = gA S 41 from hM.row (k := 41) (by decide) (by decide)]
    refine z_iconst (v := 1) g dX11_appeal_21 (by decide) ?_
    refine z_icmp_ne (tgt := 41) g dX11_appeal_22 (by decide) (fun c_22 => ?_) (fun c_22 => ?_)
    · refine z_iconst (v := 2) g dX11_appeal_41 (by decide) ?_
      refine z_goto (tgt := 46) g dX11_appeal_42 (by decide) ?_
      have hc : cAppeal S (nI j) = 2 := by simp [cAppeal, isP, hF, hcl, eq_false c_22]
      refine z_callV g _ _ cv_X11_234 (n_holds _ M hM fr0 2) hM.k0 (by decide) rfl (by rw [hR]; decide) (by rw [hR]; decide) (by rw [hR]; decide) (Nat.le_of_ble_eq_true rfl) rfl dX11_appeal_46 (fun _ _ h => False.elim h) (fun r_46 M1 h_46 => ?_)
      obtain ⟨rfl, hM1, fr1⟩ := h_46
      refine z_if_ne (tgt := 54) g dX11_appeal_49 (by decide) (fun c_49 => absurd c_49 (by decide)) (fun _ => ?_)
      refine z_iconst (v := 0) g dX11_appeal_52 (by decide) ?_
      exact z_iret g hrt rfl (by decide) (by decide) dX11_appeal_53 ⟨by rw [hc, opV_2], by rw [hc, opS_2]; exact hM1, fr1⟩
    · refine z_aload_n g dX11_appeal_25 rfl ?_
      refine z_getI g fl_X11_238 hM.k0 (by decide) rfl dX11_appeal_26 ?_
      rw [show fI _ m 1 = gi S 1 from hM.sc (k := 1) (by decide) (by decide)]
      refine z_aload_n g dX11_appeal_29 rfl ?_
      refine z_getR g fl_X11_125 hM.k0 (by decide) rfl (hM.ref (k := 45) (by decide)) dX11_appeal_30 ?_
      refine z_iload_n g dX11_appeal_33 rfl ?_
      refine z_ialdk g (hM.kA1 (k := 45) (by decide)) (by decide) (vp_in_nI (by rw [hM.lnI (k := 45) (by decide)]; show _ < 16; omega) (by rw [hM.lnI (k := 45) (by decide)]; decide)) dX11_appeal_34 ?_
      rw [nI_clamp (by omega), show fI _ (A 45) = gA S 45 from hM.row (k := 45) (by decide) (by decide)]
      refine z_isub g dX11_appeal_35 ?_
      refine z_bipush (v := 60) g dX11_appeal_36 (by decide) ?_
      refine z_icmp_le (tgt := 45) g dX11_appeal_38 (by decide) (fun c_38 => ?_) (fun c_38 => ?_)
      · refine z_iconst (v := 0) g dX11_appeal_45 (by decide) ?_
        have hc : cAppeal S (nI j) = 0 := by simp [cAppeal, isP, hF, hcl, eq_true c_22, eq_true c_38]
        refine z_callV g _ _ cv_X11_234 (n_holds _ M hM fr0 0) hM.k0 (by decide) rfl (by rw [hR]; decide) (by rw [hR]; decide) (by rw [hR]; decide) (Nat.le_of_ble_eq_true rfl) rfl dX11_appeal_46 (fun _ _ h => False.elim h) (fun r_46 M2 h_46 => ?_)
        obtain ⟨rfl, hM2, fr2⟩ := h_46
        refine z_if_ne (tgt := 54) g dX11_appeal_49 (by decide) (fun _ => ?_) (fun c_49 => absurd c_49 (by decide))
        obtain ⟨h46a, h46b⟩ := h46 (Or.inl (by show (gA S 41 j).toNatClampNeg = 1; rw [c_22]; decide))
        have hn100 := v17.2
        refine z_aload_n g dX11_appeal_54 rfl ?_
        refine z_getR g fl_X11_113 hM2.k0 (by decide) rfl (hM2.ref (k := 41) (by decide)) dX11_appeal_55 ?_
        refine z_iload_n g dX11_appeal_58 rfl ?_
        refine z_iconst (v := 3) g dX11_appeal_59 (by decide) ?_
        refine m_iast g hM2 fr2 41 (by decide) (by show _ < 16; omega) dX11_appeal_60 (fun M3 hM3 fr3 => ?_)
        refine z_aload_n g dX11_appeal_61 rfl ?_
        refine z_getR g fl_X11_68 hM3.k0 (by decide) rfl (hM3.ref (k := 23) (by decide)) dX11_appeal_62 ?_
        refine z_aload_n g dX11_appeal_65 rfl ?_
        refine z_getR g fl_X11_128 hM3.k0 (by decide) rfl (hM3.ref (k := 46) (by decide)) dX11_appeal_66 ?_
        refine z_iload_n g dX11_appeal_69 rfl ?_
        refine z_ialdk g (hM3.kA1 (k := 46) (by decide)) (by decide) (vp_in_nI (by rw [hM3.lnI (k := 46) (by decide)]; show _ < 16; omega) (by rw [hM3.lnI (k := 46) (by decide)]; decide)) dX11_appeal_70 ?_
        rw [nI_clamp (by omega), show fI _ (A 46) = gA S 46 from hM3.row (k := 46) (by decide) (by decide)]
        rw [h46a.1]
        refine z_aload_n g dX11_appeal_71 rfl ?_
        refine z_getI g fl_X11_238 hM3.k0 (by decide) rfl dX11_appeal_72 ?_
        rw [show fI _ m 1 = gi S 1 from hM3.sc (k := 1) (by decide) (by decide)]
        refine m_iast g hM3 fr3 23 (by decide) (by show _ < 100; omega) dX11_appeal_75 (fun M4 hM4 fr4 => ?_)
        refine z_aload_n g dX11_appeal_76 rfl ?_
        refine z_getI g fl_X11_238 hM4.k0 (by decide) rfl dX11_appeal_77 ?_
        rw [show fI _ m 1 = gi S 1 from hM4.sc (k := 1) (by decide) (by decide)]
        refine z_aload_n g dX11_appeal_80 rfl ?_
        refine z_getR g fl_X11_125 hM4.k0 (by decide) rfl (hM4.ref (k := 45) (by decide)) dX11_appeal_81 ?_
        refine z_iload_n g dX11_appeal_84 rfl ?_
        refine z_ialdk g (hM4.kA1 (k := 45) (by decide)) (by decide) (vp_in_nI (by rw [hM4.lnI (k := 45) (by decide)]; show _ < 16; omega) (by rw [hM4.lnI (k := 45) (by decide)]; decide)) dX11_appeal_85 ?_
        rw [nI_clamp (by omega), show fI _ (A 45) = gA S 45 from hM4.row (k := 45) (by decide) (by decide)]
        refine z_isub g dX11_appeal_86 ?_
        exact z_iret g hrt rfl (by decide) (by decide) dX11_appeal_87 ⟨by rw [hc, opV_0]; rw [vAppeal, hcl], by rw [hc, opS_0, sAppeal, hcl]; exact hM4, fr4⟩
      · refine z_iconst (v := 2) g dX11_appeal_41 (by decide) ?_
        refine z_goto (tgt := 46) g dX11_appeal_42 (by decide) ?_
        have hc : cAppeal S (nI j) = 2 := by simp [cAppeal, isP, hF, hcl, eq_true c_22, eq_false c_38]
        refine z_callV g _ _ cv_X11_234 (n_holds _ M hM fr0 2) hM.k0 (by decide) rfl (by rw [hR]; decide) (by rw [hR]; decide) (by rw [hR]; decide) (Nat.le_of_ble_eq_true rfl) rfl dX11_appeal_46 (fun _ _ h => False.elim h) (fun r_46 M5 h_46 => ?_)
        obtain ⟨rfl, hM5, fr5⟩ := h_46
        refine z_if_ne (tgt := 54) g dX11_appeal_49 (by decide) (fun c_49 => absurd c_49 (by decide)) (fun _ => ?_)
        refine z_iconst (v := 0) g dX11_appeal_52 (by decide) ?_
        exact z_iret g hrt rfl (by decide) (by decide) dX11_appeal_53 ⟨by rw [hc, opV_2], by rw [hc, opS_2]; exact hM5, fr5⟩
set_option maxHeartbeats 4000000 in
set_option maxRecDepth 100000 in
theorem m_petOf (E : Ev) {A : Nat → Nat} {m : Nat} {S : Ms} (M : Mm) (hM : RM A m S M) (hV : INV S) (p w : Int32) : CT E yX11_petitionOf cX11_petitionOf 3 (some .int) 4 0 0 [.ref m, .int p, .int w] M (mAns A m (opS (cPetOf S p w) S (sPetOf S p w)) M (some (.int (opV (cPetOf S p w) (vPetOf S p w) 0)))) noX := by
  refine CT.of rfl (Nat.le_of_ble_eq_true rfl) (fun X g hrt hno hE hN hR hI => ?_)
  subst hE
  obtain ⟨v1, v2, v17, v24, v31, v36, v51, v58, v59⟩ := hV.1
  have hV0 := hV
  obtain ⟨-, vF, vN, vM, vL, vX, vP, vQ, vT, vR, vS, vO⟩ := hV
  have fr0 := FM.rf (A := A) (m := m) (M := M)
  rcases inN (n := cn S 36) (by have := v36.2; omega) p with hF | ⟨j, hj, rfl, hF⟩
  · rw [← v36.1] at hF
    refine z_aload_n g dX11_petitionOf_0 rfl ?_
    refine z_aload_n g dX11_petitionOf_1 rfl ?_
    refine z_iload_n g dX11_petitionOf_2 rfl ?_
    refine z_callV g _ _ cv_X11_282 (n_isPt _ M hM p) hM.k0 (by decide) rfl (by rw [hR]; decide) (by rw [hR]; decide) (by rw [hR]; decide) (Nat.le_of_ble_eq_true rfl) rfl dX11_petitionOf_3 (fun _ _ h => False.elim h) (fun r_3 M_3 h_3 => ?_)
    obtain ⟨rfl, rfl⟩ := h_3
    rw [hF]
    refine z_if_ne (tgt := 13) g dX11_petitionOf_6 (by decide) (fun c_6 => absurd c_6 (by decide)) (fun _ => ?_)
    refine z_iconst (v := 1) g dX11_petitionOf_9 (by decide) ?_
    refine z_goto (tgt := 27) g dX11_petitionOf_10 (by decide) ?_
    have hc : cPetOf S p w = 1 := by simp [cPetOf, isP, hF]
    refine z_callV g _ _ cv_X11_234 (n_holds _ M hM fr0 1) hM.k0 (by decide) rfl (by rw [hR]; decide) (by rw [hR]; decide) (by rw [hR]; decide) (Nat.le_of_ble_eq_true rfl) rfl dX11_petitionOf_27 (fun _ _ h => False.elim h) (fun r_27 M1 h_27 => ?_)
    obtain ⟨rfl, hM1, fr1⟩ := h_27
    refine z_if_ne (tgt := 35) g dX11_petitionOf_30 (by decide) (fun c_30 => absurd c_30 (by decide)) (fun _ => ?_)
    refine z_iconst (v := 0) g dX11_petitionOf_33 (by decide) ?_
    exact z_iret g hrt rfl (by decide) (by decide) dX11_petitionOf_34 ⟨by rw [hc, opV_1], by rw [hc, opS_1]; exact hM1, fr1⟩
  · rw [← v36.1] at hF
    have hj24 : j < 16 := by have := v36.2; omega
    refine z_aload_n g dX11_petitionOf_0 rfl ?_
    refine z_aload_n g dX11_petitionOf_1 rfl ?_
    refine z_iload_n g dX11_petitionOf_2 rfl ?_
    refine z_callV g _ _ cv_X11_282 (n_isPt _ M hM (nI j)) hM.k0 (by decide) rfl (by rw [hR]; decide) (by rw [hR]; decide) (by rw [hR]; decide) (Nat.le_of_ble_eq_true rfl) rfl dX11_petitionOf_3 (fun _ _ h => False.elim h) (fun r_3 M_3 h_3 => ?_)
    obtain ⟨rfl, rfl⟩ := h_3
    rw [hF]
    have hcl : (nI j).toNatClampNeg = j := nI_clamp (by omega)
    obtain ⟨-, -, -, -, -, h41, h42, h43, h44, -⟩ := vP j hj
    have hb4 := h42.2
    have hb3 := h43.2
    have hb2 := h44.2
    refine z_if_ne (tgt := 13) g dX11_petitionOf_6 (by decide) (fun _ => ?_) (fun c => absurd c (by decide))
    refine z_iload_n g dX11_petitionOf_13 rfl ?_
    refine z_iconst (v := 0) g dX11_petitionOf_14 (by decide) ?_
    refine z_iconst (v := 4) g dX11_petitionOf_15 (by decide) ?_
    refine z_callS g _ _ cs_X11_189 (n_in _ M w 0 4) rfl (by rw [hR]; decide) (by rw [hR]; decide) (by rw [hR]; decide) (Nat.le_of_ble_eq_true rfl) rfl dX11_petitionOf_16 (fun _ _ h => False.elim h) (fun r_16 M_16 h_16 => ?_)
    obtain ⟨rfl, rfl⟩ := h_16
    refine z_if_eq (tgt := 26) g dX11_petitionOf_19 (by decide) (fun c_19 => ?_) (fun c_19 => ?_)
    · first | rw [b2i_0] at c_19 | rw [b2i_n0] at c_19 | skip
      refine z_iconst (v := 2) g dX11_petitionOf_26 (by decide) ?_
      have hc : cPetOf S (nI j) w = 2 := by simp [cPetOf, isP, hF, c_19]
      refine z_callV g _ _ cv_X11_234 (n_holds _ M hM fr0 2) hM.k0 (by decide) rfl (by rw [hR]; decide) (by rw [hR]; decide) (by rw [hR]; decide) (Nat.le_of_ble_eq_true rfl) rfl dX11_petitionOf_27 (fun _ _ h => False.elim h) (fun r_27 M1 h_27 => ?_)
      obtain ⟨rfl, hM1, fr1⟩ := h_27
      refine z_if_ne (tgt := 35) g dX11_petitionOf_30 (by decide) (fun c_30 => absurd c_30 (by decide)) (fun _ => ?_)
      refine z_iconst (v := 0) g dX11_petitionOf_33 (by decide) ?_
      exact z_iret g hrt rfl (by decide) (by decide) dX11_petitionOf_34 ⟨by rw [hc, opV_2], by rw [hc, opS_2]; exact hM1, fr1⟩
    · first | rw [b2i_0] at c_19 | rw [b2i_n0] at c_19 | skip
      refine z_iconst (v := 0) g dX11_petitionOf_22 (by decide) ?_
      refine z_goto (tgt := 27) g dX11_petitionOf_23 (by decide) ?_
      have hc : cPetOf S (nI j) w = 0 := by simp [cPetOf, isP, hF, c_19]
      refine z_callV g _ _ cv_X11_234 (n_holds _ M hM fr0 0) hM.k0 (by decide) rfl (by rw [hR]; decide) (by rw [hR]; decide) (by rw [hR]; decide) (Nat.le_of_ble_eq_true rfl) rfl dX11_petitionOf_27 (fun _ _ h => False.elim h) (fun r_27 M2 h_27 => ?_)
      obtain ⟨rfl, hM2, fr2⟩ := h_27
      refine z_if_ne (tgt := 35) g dX11_petitionOf_30 (by decide) (fun _ => ?_) (fun c_30 => absurd c_30 (by decide))
      refine z_iload_n g dX11_petitionOf_35 rfl ?_
      refine z_iconst (v := 3) g dX11_petitionOf_36 (by decide) ?_
      refine z_icmp_ge (tgt := 77) g dX11_petitionOf_37 (by decide) (fun c_37 => ?_) (fun c_37 => ?_)
      · refine z_iload_n g dX11_petitionOf_77 rfl ?_
        refine z_iconst (v := 3) g dX11_petitionOf_78 (by decide) ?_
        refine z_icmp_ne (tgt := 94) g dX11_petitionOf_79 (by decide) (fun c_79 => ?_) (fun c_79 => ?_)
        · refine z_aload_n g dX11_petitionOf_94 rfl ?_
          refine z_getR g fl_X11_125 hM2.k0 (by decide) rfl (hM2.ref (k := 45) (by decide)) dX11_petitionOf_95 ?_
          refine z_iload_n g dX11_petitionOf_98 rfl ?_
          refine z_ialdk g (hM2.kA1 (k := 45) (by decide)) (by decide) (vp_in_nI (by rw [hM2.lnI (k := 45) (by decide)]; show _ < 16; omega) (by rw [hM2.lnI (k := 45) (by decide)]; decide)) dX11_petitionOf_99 ?_
          rw [nI_clamp (by omega), show fI _ (A 45) = gA S 45 from hM2.row (k := 45) (by decide) (by decide)]
          exact z_iret g hrt rfl (by decide) (by decide) dX11_petitionOf_100 ⟨by rw [hc, opV_0]; simp [vPetOf, hcl, eq_true c_37, eq_false c_79], by rw [hc, opS_0]; exact hM2, fr2⟩
        · refine z_aload_n g dX11_petitionOf_82 rfl ?_
          refine z_getR g fl_X11_122 hM2.k0 (by decide) rfl (hM2.ref (k := 44) (by decide)) dX11_petitionOf_83 ?_
          refine z_iload_n g dX11_petitionOf_86 rfl ?_
          refine z_ialdk g (hM2.kA1 (k := 44) (by decide)) (by decide) (vp_in_nI (by rw [hM2.lnI (k := 44) (by decide)]; show _ < 16; omega) (by rw [hM2.lnI (k := 44) (by decide)]; decide)) dX11_petitionOf_87 ?_
          rw [nI_clamp (by omega), show fI _ (A 44) = gA S 44 from hM2.row (k := 44) (by decide) (by decide)]
          rw [h44.1]
          refine z_callS g _ _ cs_X11_285 (n_bits _ _ (ca S 44 j) (by omega)) rfl (by rw [hR]; decide) (by rw [hR]; decide) (by rw [hR]; decide) (Nat.le_of_ble_eq_true rfl) rfl dX11_petitionOf_88 (fun _ _ h => False.elim h) (fun r_88 M_88 h_88 => ?_)
          obtain ⟨rfl, rfl⟩ := h_88
          refine z_goto (tgt := 100) g dX11_petitionOf_91 (by decide) ?_
          exact z_iret g hrt rfl (by decide) (by decide) dX11_petitionOf_100 ⟨by rw [hc, opV_0]; simp [vPetOf, hcl, eq_true c_37, eq_true c_79], by rw [hc, opS_0]; exact hM2, fr2⟩
      · refine z_iload_n g dX11_petitionOf_40 rfl ?_
        refine z_if_ne (tgt := 53) g dX11_petitionOf_41 (by decide) (fun c_41 => ?_) (fun c_41 => ?_)
        · refine z_iload_n g dX11_petitionOf_53 rfl ?_
          refine z_iconst (v := 1) g dX11_petitionOf_54 (by decide) ?_
          refine z_icmp_ne (tgt := 67) g dX11_petitionOf_55 (by decide) (fun c_55 => ?_) (fun c_55 => ?_)
          · refine z_aload_n g dX11_petitionOf_67 rfl ?_
            refine z_getR g fl_X11_119 hM2.k0 (by decide) rfl (hM2.ref (k := 43) (by decide)) dX11_petitionOf_68 ?_
            refine z_iload_n g dX11_petitionOf_71 rfl ?_
            refine z_ialdk g (hM2.kA1 (k := 43) (by decide)) (by decide) (vp_in_nI (by rw [hM2.lnI (k := 43) (by decide)]; show _ < 16; omega) (by rw [hM2.lnI (k := 43) (by decide)]; decide)) dX11_petitionOf_72 ?_
            rw [nI_clamp (by omega), show fI _ (A 43) = gA S 43 from hM2.row (k := 43) (by decide) (by decide)]
            rw [h43.1]
            refine z_callS g _ _ cs_X11_285 (n_bits _ _ (ca S 43 j) (by omega)) rfl (by rw [hR]; decide) (by rw [hR]; decide) (by rw [hR]; decide) (Nat.le_of_ble_eq_true rfl) rfl dX11_petitionOf_73 (fun _ _ h => False.elim h) (fun r_73 M_73 h_73 => ?_)
            obtain ⟨rfl, rfl⟩ := h_73
            exact z_iret g hrt rfl (by decide) (by decide) dX11_petitionOf_76 ⟨by rw [hc, opV_0]; simp [vPetOf, hcl, eq_false c_37, eq_false c_41, eq_false c_55], by rw [hc, opS_0]; exact hM2, fr2⟩
          · refine z_aload_n g dX11_petitionOf_58 rfl ?_
            refine z_getR g fl_X11_116 hM2.k0 (by decide) rfl (hM2.ref (k := 42) (by decide)) dX11_petitionOf_59 ?_
            refine z_iload_n g dX11_petitionOf_62 rfl ?_
            refine z_ialdk g (hM2.kA1 (k := 42) (by decide)) (by decide) (vp_in_nI (by rw [hM2.lnI (k := 42) (by decide)]; show _ < 16; omega) (by rw [hM2.lnI (k := 42) (by decide)]; decide)) dX11_petitionOf_63 ?_
            rw [nI_clamp (by omega), show fI _ (A 42) = gA S 42 from hM2.row (k := 42) (by decide) (by decide)]
            rw [h42.1]
            refine z_goto (tgt := 73) g dX11_petitionOf_64 (by decide) ?_
            refine z_callS g _ _ cs_X11_285 (n_bits _ _ (ca S 42 j) (by omega)) rfl (by rw [hR]; decide) (by rw [hR]; decide) (by rw [hR]; decide) (Nat.le_of_ble_eq_true rfl) rfl dX11_petitionOf_73 (fun _ _ h => False.elim h) (fun r_73 M_73 h_73 => ?_)
            obtain ⟨rfl, rfl⟩ := h_73
            exact z_iret g hrt rfl (by decide) (by decide) dX11_petitionOf_76 ⟨by rw [hc, opV_0]; simp [vPetOf, hcl, eq_false c_37, eq_false c_41, eq_true c_55], by rw [hc, opS_0]; exact hM2, fr2⟩
        · refine z_aload_n g dX11_petitionOf_44 rfl ?_
          refine z_getR g fl_X11_113 hM2.k0 (by decide) rfl (hM2.ref (k := 41) (by decide)) dX11_petitionOf_45 ?_
          refine z_iload_n g dX11_petitionOf_48 rfl ?_
          refine z_ialdk g (hM2.kA1 (k := 41) (by decide)) (by decide) (vp_in_nI (by rw [hM2.lnI (k := 41) (by decide)]; show _ < 16; omega) (by rw [hM2.lnI (k := 41) (by decide)]; decide)) dX11_petitionOf_49 ?_
          rw [nI_clamp (by omega), show fI _ (A 41) = gA S 41 from hM2.row (k := 41) (by decide) (by decide)]
          refine z_goto (tgt := 76) g dX11_petitionOf_50 (by decide) ?_
          exact z_iret g hrt rfl (by decide) (by decide) dX11_petitionOf_76 ⟨by rw [hc, opV_0]; simp [vPetOf, hcl, eq_false c_37, eq_true c_41], by rw [hc, opS_0]; exact hM2, fr2⟩
set_option maxHeartbeats 4000000 in
set_option maxRecDepth 100000 in
theorem m_census (E : Ev) {A : Nat → Nat} {m : Nat} {S : Ms} (M : Mm) (hM : RM A m S M) (hV : INV S) (f t h : Int32) : CT E yX11_census cX11_census 6 (some .int) 4 0 0 [.ref m, .int f, .int t, .int h] M (mAns A m (opS (cCensus S f t h) S (sCensus S f t h)) M (some (.int (opV (cCensus S f t h) (vCensus S f t h) 0)))) noX := by
  refine CT.of rfl (Nat.le_of_ble_eq_true rfl) (fun X g hrt hno hE hN hR hI => ?_)
  subst hE
  obtain ⟨v1, v2, v17, v24, v31, v36, v51, v58, v59⟩ := hV.1
  have hV0 := hV
  obtain ⟨-, vF, vN, vM, vL, vX, vP, vQ, vT, vR, vS, vO⟩ := hV
  have fr0 := FM.rf (A := A) (m := m) (M := M)
  rcases inN (n := cn S 2) (by have := v2.2; omega) f with hF | ⟨j, hj, rfl, hF⟩
  · rw [← v2.1] at hF
    refine z_aload_n g dX11_census_0 rfl ?_
    refine z_iload_n g dX11_census_1 rfl ?_
    refine z_callV g _ _ cv_X11_245 (n_isF _ M hM f) hM.k0 (by decide) rfl (by rw [hR]; decide) (by rw [hR]; decide) (by rw [hR]; decide) (Nat.le_of_ble_eq_true rfl) rfl dX11_census_2 (fun _ _ h => False.elim h) (fun r_2 M_2 h_2 => ?_)
    obtain ⟨rfl, rfl⟩ := h_2
    rw [hF]
    refine z_if_eq (tgt := 19) g dX11_census_5 (by decide) (fun _ => ?_) (fun c_5 => absurd c_5 (by decide))
    refine z_iconst (v := 0) g dX11_census_19 (by decide) ?_
    refine z_istore g dX11_census_20 (by rw [hN]; decide) ?_
    refine z_aload_n g dX11_census_22 rfl ?_
    refine z_iload g dX11_census_23 rfl ?_
    refine z_if_ne (tgt := 32) g dX11_census_25 (by decide) (fun c_25 => absurd c_25 (by decide)) (fun _ => ?_)
    refine z_iconst (v := 1) g dX11_census_28 (by decide) ?_
    refine z_goto (tgt := 47) g dX11_census_29 (by decide) ?_
    have hc : cCensus S f t h = 1 := by simp [cCensus, isF, hF]
    refine z_callV g _ _ cv_X11_234 (n_holds _ M hM fr0 1) hM.k0 (by decide) rfl (by rw [hR]; decide) (by rw [hR]; decide) (by rw [hR]; decide) (Nat.le_of_ble_eq_true rfl) rfl dX11_census_47 (fun _ _ h => False.elim h) (fun r_47 M1 h_47 => ?_)
    obtain ⟨rfl, hM1, fr1⟩ := h_47
    refine z_if_ne (tgt := 55) g dX11_census_50 (by decide) (fun c_50 => absurd c_50 (by decide)) (fun _ => ?_)
    refine z_iconst (v := 0) g dX11_census_53 (by decide) ?_
    exact z_iret g hrt rfl (by decide) (by decide) dX11_census_54 ⟨by rw [hc, opV_1], by rw [hc, opS_1]; exact hM1, fr1⟩
  · rw [← v2.1] at hF
    have hj24 : j < 24 := by have := v2.2; omega
    refine z_aload_n g dX11_census_0 rfl ?_
    refine z_iload_n g dX11_census_1 rfl ?_
    refine z_callV g _ _ cv_X11_245 (n_isF _ M hM (nI j)) hM.k0 (by decide) rfl (by rw [hR]; decide) (by rw [hR]; decide) (by rw [hR]; decide) (Nat.le_of_ble_eq_true rfl) rfl dX11_census_2 (fun _ _ h => False.elim h) (fun r_2 M_2 h_2 => ?_)
    obtain ⟨rfl, rfl⟩ := h_2
    rw [hF]
    have hcl : (nI j).toNatClampNeg = j := nI_clamp (by omega)
    refine z_if_eq (tgt := 19) g dX11_census_5 (by decide) (fun c => absurd c (by decide)) (fun _ => ?_)
    refine z_iload_n g dX11_census_8 rfl ?_
    refine z_callS g _ _ cs_X11_264 (n_isT _ M t) rfl (by rw [hR]; decide) (by rw [hR]; decide) (by rw [hR]; decide) (Nat.le_of_ble_eq_true rfl) rfl dX11_census_9 (fun _ _ h => False.elim h) (fun r_9 M_9 h_9 => ?_)
    obtain ⟨rfl, rfl⟩ := h_9
    refine z_if_eq (tgt := 19) g dX11_census_12 (by decide) (fun c_12 => ?_) (fun c_12 => ?_)
    · first | rw [b2i_0] at c_12 | rw [b2i_n0] at c_12 | skip
      refine z_iconst (v := 0) g dX11_census_19 (by decide) ?_
      refine z_istore g dX11_census_20 (by rw [hN]; decide) ?_
      refine z_aload_n g dX11_census_22 rfl ?_
      refine z_iload g dX11_census_23 rfl ?_
      refine z_if_ne (tgt := 32) g dX11_census_25 (by decide) (fun c_25 => absurd c_25 (by decide)) (fun _ => ?_)
      refine z_iconst (v := 1) g dX11_census_28 (by decide) ?_
      refine z_goto (tgt := 47) g dX11_census_29 (by decide) ?_
      have hc : cCensus S (nI j) t h = 1 := by simp [cCensus, isF, hF, c_12]
      refine z_callV g _ _ cv_X11_234 (n_holds _ M hM fr0 1) hM.k0 (by decide) rfl (by rw [hR]; decide) (by rw [hR]; decide) (by rw [hR]; decide) (Nat.le_of_ble_eq_true rfl) rfl dX11_census_47 (fun _ _ h => False.elim h) (fun r_47 M1 h_47 => ?_)
      obtain ⟨rfl, hM1, fr1⟩ := h_47
      refine z_if_ne (tgt := 55) g dX11_census_50 (by decide) (fun c_50 => absurd c_50 (by decide)) (fun _ => ?_)
      refine z_iconst (v := 0) g dX11_census_53 (by decide) ?_
      exact z_iret g hrt rfl (by decide) (by decide) dX11_census_54 ⟨by rw [hc, opV_1], by rw [hc, opS_1]; exact hM1, fr1⟩
    · first | rw [b2i_0] at c_12 | rw [b2i_n0] at c_12 | skip
      refine z_iconst (v := 1) g dX11_census_15 (by decide) ?_
      refine z_goto (tgt := 20) g dX11_census_16 (by decide) ?_
      refine z_istore g dX11_census_20 (by rw [hN]; decide) ?_
      refine z_aload_n g dX11_census_22 rfl ?_
      refine z_iload g dX11_census_23 rfl ?_
      refine z_if_ne (tgt := 32) g dX11_census_25 (by decide) (fun _ => ?_) (fun c_25 => absurd c_25 (by decide))
      refine z_iload_n g dX11_census_32 rfl ?_
      refine z_iconst (v := 0) g dX11_census_33 (by decide) ?_
      refine z_bipush (v := 100) g dX11_census_34 (by decide) ?_
      refine z_callS g _ _ cs_X11_189 (n_in _ M h 0 100) rfl (by rw [hR]; decide) (by rw [hR]; decide) (by rw [hR]; decide) (Nat.le_of_ble_eq_true rfl) rfl dX11_census_36 (fun _ _ h => False.elim h) (fun r_36 M_36 h_36 => ?_)
      obtain ⟨rfl, rfl⟩ := h_36
      refine z_if_eq (tgt := 46) g dX11_census_39 (by decide) (fun c_39 => ?_) (fun c_39 => ?_)
      · first | rw [b2i_0] at c_39 | rw [b2i_n0] at c_39 | skip
        refine z_iconst (v := 2) g dX11_census_46 (by decide) ?_
        have hc : cCensus S (nI j) t h = 2 := by simp [cCensus, isF, hF, c_12, c_39]
        refine z_callV g _ _ cv_X11_234 (n_holds _ M hM fr0 2) hM.k0 (by decide) rfl (by rw [hR]; decide) (by rw [hR]; decide) (by rw [hR]; decide) (Nat.le_of_ble_eq_true rfl) rfl dX11_census_47 (fun _ _ h => False.elim h) (fun r_47 M2 h_47 => ?_)
        obtain ⟨rfl, hM2, fr2⟩ := h_47
        refine z_if_ne (tgt := 55) g dX11_census_50 (by decide) (fun c_50 => absurd c_50 (by decide)) (fun _ => ?_)
        refine z_iconst (v := 0) g dX11_census_53 (by decide) ?_
        exact z_iret g hrt rfl (by decide) (by decide) dX11_census_54 ⟨by rw [hc, opV_2], by rw [hc, opS_2]; exact hM2, fr2⟩
      · first | rw [b2i_0] at c_39 | rw [b2i_n0] at c_39 | skip
        refine z_iconst (v := 0) g dX11_census_42 (by decide) ?_
        refine z_goto (tgt := 47) g dX11_census_43 (by decide) ?_
        have hc : cCensus S (nI j) t h = 0 := by simp [cCensus, isF, hF, c_12, c_39]
        refine z_callV g _ _ cv_X11_234 (n_holds _ M hM fr0 0) hM.k0 (by decide) rfl (by rw [hR]; decide) (by rw [hR]; decide) (by rw [hR]; decide) (Nat.le_of_ble_eq_true rfl) rfl dX11_census_47 (fun _ _ h => False.elim h) (fun r_47 M3 h_47 => ?_)
        obtain ⟨rfl, hM3, fr3⟩ := h_47
        refine z_if_ne (tgt := 55) g dX11_census_50 (by decide) (fun _ => ?_) (fun c_50 => absurd c_50 (by decide))
        obtain ⟨t4, ht4, rfl⟩ : ∃ t4, t4 < 4 ∧ t = nI t4 := by
          rcases in4 t with z | ⟨t4, q1, q2, -⟩
          · exact absurd z c_12
          · exact ⟨t4, q1, q2⟩
        have htc : (nI t4).toNatClampNeg = t4 := nI_clamp (by omega)
        refine z_aload_n g dX11_census_55 rfl ?_
        refine z_getR g fl_X11_131 hM3.k0 (by decide) rfl (hM3.ref (k := 47) (by decide)) dX11_census_56 ?_
        refine z_iconst (v := 4) g dX11_census_59 (by decide) ?_
        refine z_iload_n g dX11_census_60 rfl ?_
        refine z_imul g dX11_census_61 ?_
        rw [m4]
        refine z_iload_n g dX11_census_62 rfl ?_
        refine z_iadd g dX11_census_63 ?_
        rw [nI_add]
        refine z_ialdk g (hM3.kA1 (k := 47) (by decide)) (by decide) (vp_in_nI (by rw [hM3.lnI (k := 47) (by decide)]; show _ < 96; omega) (by rw [hM3.lnI (k := 47) (by decide)]; decide)) dX11_census_64 ?_
        rw [nI_clamp (by omega), show fI _ (A 47) = gA S 47 from hM3.row (k := 47) (by decide) (by decide)]
        refine z_istore g dX11_census_65 (by rw [hN]; decide) ?_
        refine z_aload_n g dX11_census_67 rfl ?_
        refine z_getR g fl_X11_131 hM3.k0 (by decide) rfl (hM3.ref (k := 47) (by decide)) dX11_census_68 ?_
        refine z_iconst (v := 4) g dX11_census_71 (by decide) ?_
        refine z_iload_n g dX11_census_72 rfl ?_
        refine z_imul g dX11_census_73 ?_
        rw [m4]
        refine z_iload_n g dX11_census_74 rfl ?_
        refine z_iadd g dX11_census_75 ?_
        rw [nI_add]
        refine z_iload_n g dX11_census_76 rfl ?_
        refine m_iast g hM3 fr3 47 (by decide) (by show _ < 96; omega) dX11_census_77 (fun M4 hM4 fr4 => ?_)
        refine z_iload g dX11_census_78 rfl ?_
        exact z_iret g hrt rfl (by decide) (by decide) dX11_census_80 ⟨by rw [hc, opV_0]; rw [vCensus, hcl, htc], by rw [hc, opS_0, sCensus, hcl, htc]; exact hM4, fr4⟩
set_option maxHeartbeats 4000000 in
set_option maxRecDepth 100000 in
theorem m_dispute (E : Ev) {A : Nat → Nat} {m : Nat} {S : Ms} (M : Mm) (hM : RM A m S M) (hV : INV S) (f a b : Int32) : CT E yX11_dispute cX11_dispute 4 none 4 0 0 [.ref m, .int f, .int a, .int b] M (mAns A m (opS (cDispute S f a b) S (sDispute S f a b)) M none) noX := by
  refine CT.of rfl (Nat.le_of_ble_eq_true rfl) (fun X g hrt hno hE hN hR hI => ?_)
  subst hE
  obtain ⟨v1, v2, v17, v24, v31, v36, v51, v58, v59⟩ := hV.1
  have hV0 := hV
  obtain ⟨-, vF, vN, vM, vL, vX, vP, vQ, vT, vR, vS, vO⟩ := hV
  have fr0 := FM.rf (A := A) (m := m) (M := M)
  rcases inN (n := cn S 2) (by have := v2.2; omega) f with hF | ⟨j, hj, rfl, hF⟩
  · rw [← v2.1] at hF
    refine z_aload_n g dX11_dispute_0 rfl ?_
    refine z_aload_n g dX11_dispute_1 rfl ?_
    refine z_iload_n g dX11_dispute_2 rfl ?_
    refine z_callV g _ _ cv_X11_245 (n_isF _ M hM f) hM.k0 (by decide) rfl (by rw [hR]; decide) (by rw [hR]; decide) (by rw [hR]; decide) (Nat.le_of_ble_eq_true rfl) rfl dX11_dispute_3 (fun _ _ h => False.elim h) (fun r_3 M_3 h_3 => ?_)
    obtain ⟨rfl, rfl⟩ := h_3
    rw [hF]
    refine z_if_eq (tgt := 27) g dX11_dispute_6 (by decide) (fun _ => ?_) (fun c_6 => absurd c_6 (by decide))
    refine z_iconst (v := 1) g dX11_dispute_27 (by decide) ?_
    have hc : cDispute S f a b = 1 := by simp [cDispute, isF, hF]
    refine z_callV g _ _ cv_X11_234 (n_holds _ M hM fr0 1) hM.k0 (by decide) rfl (by rw [hR]; decide) (by rw [hR]; decide) (by rw [hR]; decide) (Nat.le_of_ble_eq_true rfl) rfl dX11_dispute_28 (fun _ _ h => False.elim h) (fun r_28 M1 h_28 => ?_)
    obtain ⟨rfl, hM1, fr1⟩ := h_28
    refine z_if_eq (tgt := 48) g dX11_dispute_31 (by decide) (fun _ => ?_) (fun c_31 => absurd c_31 (by decide))
    exact z_vret g hrt (by decide) (by decide) dX11_dispute_48 ⟨rfl, by rw [hc, opS_1]; exact hM1, fr1⟩
  · rw [← v2.1] at hF
    have hj24 : j < 24 := by have := v2.2; omega
    refine z_aload_n g dX11_dispute_0 rfl ?_
    refine z_aload_n g dX11_dispute_1 rfl ?_
    refine z_iload_n g dX11_dispute_2 rfl ?_
    refine z_callV g _ _ cv_X11_245 (n_isF _ M hM (nI j)) hM.k0 (by decide) rfl (by rw [hR]; decide) (by rw [hR]; decide) (by rw [hR]; decide) (Nat.le_of_ble_eq_true rfl) rfl dX11_dispute_3 (fun _ _ h => False.elim h) (fun r_3 M_3 h_3 => ?_)
    obtain ⟨rfl, rfl⟩ := h_3
    rw [hF]
    have hcl : (nI j).toNatClampNeg = j := nI_clamp (by omega)
    refine z_if_eq (tgt := 27) g dX11_dispute_6 (by decide) (fun c => absurd c (by decide)) (fun _ => ?_)
    refine z_iload_n g dX11_dispute_9 rfl ?_
    refine z_callS g _ _ cs_X11_264 (n_isT _ M a) rfl (by rw [hR]; decide) (by rw [hR]; decide) (by rw [hR]; decide) (Nat.le_of_ble_eq_true rfl) rfl dX11_dispute_10 (fun _ _ h => False.elim h) (fun r_10 M_10 h_10 => ?_)
    obtain ⟨rfl, rfl⟩ := h_10
    refine z_if_eq (tgt := 27) g dX11_dispute_13 (by decide) (fun c_13 => ?_) (fun c_13 => ?_)
    · first | rw [b2i_0] at c_13 | rw [b2i_n0] at c_13 | skip
      refine z_iconst (v := 1) g dX11_dispute_27 (by decide) ?_
      have hc : cDispute S (nI j) a b = 1 := by simp [cDispute, isF, hF, c_13]
      refine z_callV g _ _ cv_X11_234 (n_holds _ M hM fr0 1) hM.k0 (by decide) rfl (by rw [hR]; decide) (by rw [hR]; decide) (by rw [hR]; decide) (Nat.le_of_ble_eq_true rfl) rfl dX11_dispute_28 (fun _ _ h => False.elim h) (fun r_28 M1 h_28 => ?_)
      obtain ⟨rfl, hM1, fr1⟩ := h_28
      refine z_if_eq (tgt := 48) g dX11_dispute_31 (by decide) (fun _ => ?_) (fun c_31 => absurd c_31 (by decide))
      exact z_vret g hrt (by decide) (by decide) dX11_dispute_48 ⟨rfl, by rw [hc, opS_1]; exact hM1, fr1⟩
    · first | rw [b2i_0] at c_13 | rw [b2i_n0] at c_13 | skip
      refine z_iload_n g dX11_dispute_16 rfl ?_
      refine z_callS g _ _ cs_X11_264 (n_isT _ M b) rfl (by rw [hR]; decide) (by rw [hR]; decide) (by rw [hR]; decide) (Nat.le_of_ble_eq_true rfl) rfl dX11_dispute_17 (fun _ _ h => False.elim h) (fun r_17 M_17 h_17 => ?_)
      obtain ⟨rfl, rfl⟩ := h_17
      refine z_if_eq (tgt := 27) g dX11_dispute_20 (by decide) (fun c_20 => ?_) (fun c_20 => ?_)
      · first | rw [b2i_0] at c_20 | rw [b2i_n0] at c_20 | skip
        refine z_iconst (v := 1) g dX11_dispute_27 (by decide) ?_
        have hc : cDispute S (nI j) a b = 1 := by simp [cDispute, isF, hF, c_13, c_20]
        refine z_callV g _ _ cv_X11_234 (n_holds _ M hM fr0 1) hM.k0 (by decide) rfl (by rw [hR]; decide) (by rw [hR]; decide) (by rw [hR]; decide) (Nat.le_of_ble_eq_true rfl) rfl dX11_dispute_28 (fun _ _ h => False.elim h) (fun r_28 M2 h_28 => ?_)
        obtain ⟨rfl, hM2, fr2⟩ := h_28
        refine z_if_eq (tgt := 48) g dX11_dispute_31 (by decide) (fun _ => ?_) (fun c_31 => absurd c_31 (by decide))
        exact z_vret g hrt (by decide) (by decide) dX11_dispute_48 ⟨rfl, by rw [hc, opS_1]; exact hM2, fr2⟩
      · first | rw [b2i_0] at c_20 | rw [b2i_n0] at c_20 | skip
        refine z_iconst (v := 0) g dX11_dispute_23 (by decide) ?_
        refine z_goto (tgt := 28) g dX11_dispute_24 (by decide) ?_
        have hc : cDispute S (nI j) a b = 0 := by simp [cDispute, isF, hF, c_13, c_20]
        refine z_callV g _ _ cv_X11_234 (n_holds _ M hM fr0 0) hM.k0 (by decide) rfl (by rw [hR]; decide) (by rw [hR]; decide) (by rw [hR]; decide) (Nat.le_of_ble_eq_true rfl) rfl dX11_dispute_28 (fun _ _ h => False.elim h) (fun r_28 M3 h_28 => ?_)
        obtain ⟨rfl, hM3, fr3⟩ := h_28
        refine z_if_eq (tgt := 48) g dX11_dispute_31 (by decide) (fun c_31 => absurd c_31 (by decide)) (fun _ => ?_)
        refine z_aload_n g dX11_dispute_34 rfl ?_
        refine z_getR g fl_X11_134 hM3.k0 (by decide) rfl (hM3.ref (k := 48) (by decide)) dX11_dispute_35 ?_
        refine z_iload_n g dX11_dispute_38 rfl ?_
        refine z_iload_n g dX11_dispute_39 rfl ?_
        refine m_iast g hM3 fr3 48 (by decide) (by show _ < 24; omega) dX11_dispute_40 (fun M4 hM4 fr4 => ?_)
        refine z_aload_n g dX11_dispute_41 rfl ?_
        refine z_getR g fl_X11_137 hM4.k0 (by decide) rfl (hM4.ref (k := 49) (by decide)) dX11_dispute_42 ?_
        refine z_iload_n g dX11_dispute_45 rfl ?_
        refine z_iload_n g dX11_dispute_46 rfl ?_
        refine m_iast g hM4 fr4 49 (by decide) (by show _ < 24; omega) dX11_dispute_47 (fun M5 hM5 fr5 => ?_)
        exact z_vret g hrt (by decide) (by decide) dX11_dispute_48 ⟨rfl, by rw [hc, opS_0, sDispute, hcl]; exact hM5, fr5⟩
