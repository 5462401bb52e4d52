/-! ===== the model: assign, ways, days (printed by gen/mod_d17.py) ===== -/
set_option maxHeartbeats 4000000 in
set_option maxRecDepth 100000 in
theorem m_assign (E : Ev) {A : Nat → Nat} {m : Nat} {S : Ms} (M : Mm) (hM : RM A m S M) (hV : INV S) : CT E yX11_assign cX11_assign 1 (some .int) 5 0 0 [.ref m] M (mAns A m (sAssign S) M (some (.int (vAssign S)))) noX := by
  refine CT.of rfl (Nat.le_of_ble_eq_true rfl) (fun X g hrt hno hE hN hR hI => ?_)
  subst hE
  obtain ⟨v1, v2, v17, v24, v31, v36, v51, v58, v59⟩ := hV.1
  have hV0 := hV
  obtain ⟨-, vF, vN, vM, vL, vX, vP, vQ, vT, vR, vS, vO⟩ := hV
  have fr0 := FM.rf (A := A) (m := m) (M := M)
  have hr4 := v51.2
  have h16 : 2 ^ cn S 51 - 1 < 16 := by rcases (show cn S 51 = 0 ∨ cn S 51 = 1 ∨ cn S 51 = 2 ∨ cn S 51 = 3 ∨ cn S 51 = 4 by omega) with e | e | e | e | e <;> rw [e] <;> decide
  refine z_aload_n g dX11_assign_0 rfl ?_
  refine z_iconst (v := 0) g dX11_assign_1 (by decide) ?_
  refine m_puti g hM fr0 (k := 0) fp_X11_183 rfl dX11_assign_2 (fun M1 hM1 fr1 => ?_)
  refine z_aload_n g dX11_assign_5 rfl ?_
  refine z_callV g _ _ cv_X11_325 (n_asg _ M1 hM1 (INV_wi0 0 hV0)) hM1.k0 (by decide) rfl (by rw [hR]; decide) (by rw [hR]; decide) (by rw [hR]; decide) (Nat.le_of_ble_eq_true rfl) rfl dX11_assign_6 (fun _ _ h => False.elim h) (fun r_6 M2 h_6 => ?_)
  obtain ⟨rfl, hM2, fr_6, he⟩ := h_6
  have fr2 := fr1.tr fr_6
  rw [asA_wi0, show cn (wi S 0 0) 2 = cn S 2 from rfl] at he
  refine z_aload_n g dX11_assign_9 rfl ?_
  refine z_getR g fl_X11_177 hM2.k0 (by decide) rfl (hM2.ref (k := 66) (by decide)) dX11_assign_10 ?_
  refine z_iconst (v := 1) g dX11_assign_13 (by decide) ?_
  refine z_aload_n g dX11_assign_14 rfl ?_
  refine z_getI g fl_X11_305 hM2.k0 (by decide) rfl dX11_assign_15 ?_
  rw [show fI _ m 51 = gi S 51 from hM2.sc (k := 51) (by decide) (by decide), v51.1]
  refine z_ishl g dX11_assign_18 ?_
  rw [sh1 _ (by omega)]
  refine z_iconst (v := 1) g dX11_assign_19 (by decide) ?_
  refine z_isub g dX11_assign_20 ?_
  rw [show nI (2 ^ cn S 51) - 1 = nI (2 ^ cn S 51 - 1) from pk_sub (b := 1) (Nat.one_le_two_pow)]
  refine z_ialdk g (hM2.kA1 (k := 66) (by decide)) (by decide) (vp_in_nI (by rw [hM2.lnI (k := 66) (by decide)]; show _ < 16; omega) (by rw [hM2.lnI (k := 66) (by decide)]; decide)) dX11_assign_21 ?_
  rw [nI_clamp (by omega)]
  exact z_iret g hrt rfl (by decide) (by decide) dX11_assign_22 ⟨by rw [vAssign]; exact congrArg (fun x => some (Value.int x)) (he _ h16).2, hM2, fr2⟩
set_option maxHeartbeats 4000000 in
set_option maxRecDepth 100000 in
theorem m_ways (E : Ev) {A : Nat → Nat} {m : Nat} {S : Ms} (M : Mm) (hM : RM A m S M) (hV : INV S) : CT E yX11_ways cX11_ways 1 (some .int) 5 0 0 [.ref m] M (mAns A m (sAssign S) M (some (.int (vWays S)))) noX := by
  refine CT.of rfl (Nat.le_of_ble_eq_true rfl) (fun X g hrt hno hE hN hR hI => ?_)
  subst hE
  obtain ⟨v1, v2, v17, v24, v31, v36, v51, v58, v59⟩ := hV.1
  have hV0 := hV
  obtain ⟨-, vF, vN, vM, vL, vX, vP, vQ, vT, vR, vS, vO⟩ := hV
  have fr0 := FM.rf (A := A) (m := m) (M := M)
  have hr4 := v51.2
  have h16 : 2 ^ cn S 51 - 1 < 16 := by rcases (show cn S 51 = 0 ∨ cn S 51 = 1 ∨ cn S 51 = 2 ∨ cn S 51 = 3 ∨ cn S 51 = 4 by omega) with e | e | e | e | e <;> rw [e] <;> decide
  refine z_aload_n g dX11_ways_0 rfl ?_
  refine z_iconst (v := 0) g dX11_ways_1 (by decide) ?_
  refine m_puti g hM fr0 (k := 0) fp_X11_183 rfl dX11_ways_2 (fun M1 hM1 fr1 => ?_)
  refine z_aload_n g dX11_ways_5 rfl ?_
  refine z_callV g _ _ cv_X11_325 (n_asg _ M1 hM1 (INV_wi0 0 hV0)) hM1.k0 (by decide) rfl (by rw [hR]; decide) (by rw [hR]; decide) (by rw [hR]; decide) (Nat.le_of_ble_eq_true rfl) rfl dX11_ways_6 (fun _ _ h => False.elim h) (fun r_6 M2 h_6 => ?_)
  obtain ⟨rfl, hM2, fr_6, he⟩ := h_6
  have fr2 := fr1.tr fr_6
  rw [asA_wi0, show cn (wi S 0 0) 2 = cn S 2 from rfl] at he
  refine z_aload_n g dX11_ways_9 rfl ?_
  refine z_getR g fl_X11_180 hM2.k0 (by decide) rfl (hM2.ref (k := 67) (by decide)) dX11_ways_10 ?_
  refine z_iconst (v := 1) g dX11_ways_13 (by decide) ?_
  refine z_aload_n g dX11_ways_14 rfl ?_
  refine z_getI g fl_X11_305 hM2.k0 (by decide) rfl dX11_ways_15 ?_
  rw [show fI _ m 51 = gi S 51 from hM2.sc (k := 51) (by decide) (by decide), v51.1]
  refine z_ishl g dX11_ways_18 ?_
  rw [sh1 _ (by omega)]
  refine z_iconst (v := 1) g dX11_ways_19 (by decide) ?_
  refine z_isub g dX11_ways_20 ?_
  rw [show nI (2 ^ cn S 51) - 1 = nI (2 ^ cn S 51 - 1) from pk_sub (b := 1) (Nat.one_le_two_pow)]
  refine z_ialdk g (hM2.kA1 (k := 67) (by decide)) (by decide) (vp_in_nI (by rw [hM2.lnI (k := 67) (by decide)]; show _ < 16; omega) (by rw [hM2.lnI (k := 67) (by decide)]; decide)) dX11_ways_21 ?_
  rw [nI_clamp (by omega)]
  exact z_iret g hrt rfl (by decide) (by decide) dX11_ways_22 ⟨by rw [vWays]; exact congrArg (fun x => some (Value.int x)) (he _ h16).1, hM2, fr2⟩
set_option maxHeartbeats 4000000 in
set_option maxRecDepth 100000 in
theorem n_pss (E : Ev) {A : Nat → Nat} {m : Nat} {S : Ms} (M : Mm) (hM : RM A m S M) (hV : INV S) : CT E yX11_passes cX11_passes 3 none 5 0 0 [.ref m] M (mAns A m (psA S) M none) noX := by
  refine CT.of rfl (Nat.le_of_ble_eq_true rfl) (fun X g hrt hno hE hN hR hI => ?_)
  subst hE
  obtain ⟨v1, v2, v17, v24, v31, v36, v51, v58, v59⟩ := hV.1
  have hV0 := hV
  obtain ⟨-, vF, vN, vM, vL, vX, vP, vQ, vT, vR, vS, vO⟩ := hV
  have fr0 := FM.rf (A := A) (m := m) (M := M)
  have hb58 := v58.2
  have hb59 := v59.2
  have hml : manyA S ≤ cn S 58 := by unfold manyA; split <;> omega
  have mid : ∀ (M1 : Mm) (hM1 : RM A m (sgL S (manyA S)) M1) (fr1 : FM A m M M1), Z X M1 0 0 58 [(0, .ref m), (1, .int (nI (manyA S)))] [] := by
    intro M1 hM1 fr1
    have hsf := sgL_f S (manyA S)
    refine z_aload_n g dX11_passes_58 rfl ?_
    refine z_dup g dX11_passes_59 rfl ?_
    refine z_getI g fl_X11_343 hM1.k0 (by decide) rfl dX11_passes_60 ?_
    rw [show fI _ m 58 = gi S 58 from (hM1.sc (k := 58) (by decide) (by decide)).trans (congrFun hsf.2.1 58)]
    refine z_iload_n g dX11_passes_63 rfl ?_
    refine z_isub g dX11_passes_64 ?_
    refine m_puti g hM1 fr1 (k := 58) fp_X11_343 rfl dX11_passes_65 (fun M1 hM1 fr1 => ?_)
    refine z_iconst (v := 0) g dX11_passes_68 (by decide) ?_
    refine z_istore_n g dX11_passes_69 (by rw [hN]; decide) ?_
    have h58 : gi S 58 - nI (manyA S) = nI (cn S 58 - manyA S) := by rw [v58.1]; exact pk_sub (by omega)
    have loop2 : ∀ (k j : Nat) (Ma : Mm) (hk : k + j = cn S 58 - manyA S) (hMa : RM A m (osL (wi (sgL S (manyA S)) 58 (gi S 58 - nI (manyA S))) (manyA S) j) Ma) (fra : FM A m M Ma), Z X Ma 0 0 70 [(0, .ref m), (1, .int (nI (manyA S))), (2, .int (nI j))] [] := by
      intro k
      induction k using Nat.strongRecOn with
      | _ k ih =>
        intro j Ma hk hMa fra
        have hosf := osL_f (wi (sgL S (manyA S)) 58 (gi S 58 - nI (manyA S))) (manyA S) j
        refine z_iload_n g dX11_passes_70 rfl ?_
        refine z_aload_n g dX11_passes_71 rfl ?_
        refine z_getI g fl_X11_343 hMa.k0 (by decide) rfl dX11_passes_72 ?_
        rw [show fI Ma m 58 = nI (cn S 58 - manyA S) from (hMa.sc (k := 58) (by decide) (by decide)).trans ((congrFun hosf.1 58).trans h58)]
        refine z_icmp_ge (tgt := 98) g dX11_passes_75 (by decide) (fun c_75 => ?_) (fun c_75 => ?_)
        · rw [nI_leI (by omega) (by omega)] at c_75
          have hje : j = cn S 58 - manyA S := by omega
          refine z_aload_n g dX11_passes_98 rfl ?_
          refine z_dup g dX11_passes_99 rfl ?_
          refine z_getI g fl_X11_238 hMa.k0 (by decide) rfl dX11_passes_100 ?_
          rw [show fI _ m 1 = gi S 1 from (hMa.sc (k := 1) (by decide) (by decide)).trans ((congrFun hosf.1 1).trans (congrFun hsf.2.1 1))]
          refine z_iconst (v := 1) g dX11_passes_103 (by decide) ?_
          refine z_iadd g dX11_passes_104 ?_
          refine m_puti g hMa fra (k := 1) fp_X11_238 rfl dX11_passes_105 (fun M1 hM1 fr1 => ?_)
          exact z_vret g hrt (by decide) (by decide) dX11_passes_108 ⟨rfl, by rw [psA, ← hje]; exact hM1, fr1⟩
        have h75 : j < cn S 58 - manyA S := by rw [nI_leI (by omega) (by omega)] at c_75; omega
        refine z_aload_n g dX11_passes_78 rfl ?_
        refine z_getR g fl_X11_158 hMa.k0 (by decide) rfl (hMa.ref (k := 57) (by decide)) dX11_passes_79 ?_
        refine z_iload_n g dX11_passes_82 rfl ?_
        refine z_aload_n g dX11_passes_83 rfl ?_
        refine z_getR g fl_X11_158 hMa.k0 (by decide) rfl (hMa.ref (k := 57) (by decide)) dX11_passes_84 ?_
        refine z_iload_n g dX11_passes_87 rfl ?_
        refine z_iload_n g dX11_passes_88 rfl ?_
        refine z_iadd g dX11_passes_89 ?_
        rw [nI_add]
        refine z_ialdk g (hMa.kA1 (k := 57) (by decide)) (by decide) (vp_in_nI (by rw [hMa.lnI (k := 57) (by decide)]; show _ < 24; omega) (by rw [hMa.lnI (k := 57) (by decide)]; decide)) dX11_passes_90 ?_
        rw [nI_clamp (by omega), show fI _ (A 57) (j + manyA S) = gA (wi (sgL S (manyA S)) 58 (gi S 58 - nI (manyA S))) 57 (j + manyA S) from (congrFun (hMa.row (k := 57) (by decide) (by decide)) _).trans (hosf.2 _ (by omega))]
        refine m_iast g hMa fra 57 (by decide) (by show _ < 24; omega) dX11_passes_91 (fun M1 hM1 fr1 => ?_)
        refine z_iinc1 g dX11_passes_92 rfl (by rw [hN]; decide) ?_
        refine z_goto (tgt := 70) g dX11_passes_95 (by decide) ?_
        rw [nI_s]
        exact z_to (ih (k - 1) (by omega) (j + 1) M1 (by omega) hM1 fr1) ⟨rfl, rfl, rfl, trivial⟩
    exact z_to (loop2 _ 0 M1 rfl hM1 fr1) ⟨rfl, rfl, rfl, trivial⟩
  have loop1 : ∀ (k j : Nat) (M1 : Mm) (hk : k + j = manyA S) (hM1 : RM A m (sgL S j) M1) (fr1 : FM A m M M1), Z X M1 0 0 25 [(0, .ref m), (1, .int (nI (manyA S))), (2, .int (nI j))] [] := by
    intro k
    induction k using Nat.strongRecOn with
    | _ k ih =>
      intro j M1 hk hM1 fr1
      refine z_iload_n g dX11_passes_25 rfl ?_
      refine z_iload_n g dX11_passes_26 rfl ?_
      refine z_icmp_ge (tgt := 58) g dX11_passes_27 (by decide) (fun c_27 => ?_) (fun c_27 => ?_)
      · rw [nI_leI (by omega) (by omega)] at c_27
        rw [show j = manyA S by omega] at hM1
        exact z_to (mid M1 hM1 fr1) ⟨rfl, rfl, trivial⟩
      have h27 : j < manyA S := by rw [nI_leI (by omega) (by omega)] at c_27; omega
      have hoj := (vO.1 j (by omega))
      have hsf := sgL_f S j
      have ho24 := hoj.1.2
      refine z_aload_n g dX11_passes_30 rfl ?_
      refine z_getR g fl_X11_155 hM1.k0 (by decide) rfl (hM1.refL (k := 56) (by decide)) dX11_passes_31 ?_
      refine z_aload_n g dX11_passes_34 rfl ?_
      refine z_getR g fl_X11_158 hM1.k0 (by decide) rfl (hM1.ref (k := 57) (by decide)) dX11_passes_35 ?_
      refine z_iload_n g dX11_passes_38 rfl ?_
      refine z_ialdk g (hM1.kA1 (k := 57) (by decide)) (by decide) (vp_in_nI (by rw [hM1.lnI (k := 57) (by decide)]; show _ < 24; omega) (by rw [hM1.lnI (k := 57) (by decide)]; decide)) dX11_passes_39 ?_
      rw [nI_clamp (by omega), show fI _ (A 57) = gA S 57 from (hM1.row (k := 57) (by decide) (by decide)).trans (congrFun hsf.2.2 57)]
      rw [hoj.1.1]
      refine z_aload_n g dX11_passes_40 rfl ?_
      refine z_aload_n g dX11_passes_41 rfl ?_
      refine z_getR g fl_X11_158 hM1.k0 (by decide) rfl (hM1.ref (k := 57) (by decide)) dX11_passes_42 ?_
      refine z_iload_n g dX11_passes_45 rfl ?_
      refine z_ialdk g (hM1.kA1 (k := 57) (by decide)) (by decide) (vp_in_nI (by rw [hM1.lnI (k := 57) (by decide)]; show _ < 24; omega) (by rw [hM1.lnI (k := 57) (by decide)]; decide)) dX11_passes_46 ?_
      rw [nI_clamp (by omega), show fI _ (A 57) = gA S 57 from (hM1.row (k := 57) (by decide) (by decide)).trans (congrFun hsf.2.2 57)]
      rw [hoj.1.1]
      refine z_iconst (v := 0) g dX11_passes_47 (by decide) ?_
      refine z_callV g _ _ cv_X11_292 (n_seen _ M1 hM1 (OkF_eq hsf.1 hV0.OkF) (ca S 57 j) (by omega) 0) hM1.k0 (by decide) rfl (by rw [hR]; decide) (by rw [hR]; decide) (by rw [hR]; decide) (Nat.le_of_ble_eq_true rfl) rfl dX11_passes_48 (fun _ _ h => False.elim h) (fun r_48 M1 h_48 => ?_)
      obtain ⟨rfl, se_48⟩ := h_48
      have hM1 := hM1.SE se_48
      have fr1 := fr1.tr se_48.FM
      rw [sneA_eq hsf.1 (congrFun hsf.2.1 1) (congrFun hsf.2.2 48) (congrFun hsf.2.2 49)]
      refine m_last g hM1 fr1 56 (by decide) (by show _ < 24; omega) dX11_passes_51 (fun M2 hM2 fr2 => ?_)
      refine z_iinc1 g dX11_passes_52 rfl (by rw [hN]; decide) ?_
      refine z_goto (tgt := 25) g dX11_passes_55 (by decide) ?_
      rw [nI_s]
      exact z_to (ih (k - 1) (by omega) (j + 1) M2 (by omega) hM2 fr2) ⟨rfl, rfl, rfl, trivial⟩
  refine z_aload_n g dX11_passes_0 rfl ?_
  refine z_getI g fl_X11_161 hM.k0 (by decide) rfl dX11_passes_1 ?_
  rw [show fI _ m 59 = gi S 59 from hM.sc (k := 59) (by decide) (by decide), v59.1]
  refine z_aload_n g dX11_passes_4 rfl ?_
  refine z_getI g fl_X11_343 hM.k0 (by decide) rfl dX11_passes_5 ?_
  rw [show fI _ m 58 = gi S 58 from hM.sc (k := 58) (by decide) (by decide), v58.1]
  refine z_icmp_ge (tgt := 18) g dX11_passes_8 (by decide) (fun c_8 => ?_) (fun c_8 => ?_)
  · refine z_aload_n g dX11_passes_18 rfl ?_
    refine z_getI g fl_X11_343 hM.k0 (by decide) rfl dX11_passes_19 ?_
    rw [show fI _ m 58 = gi S 58 from hM.sc (k := 58) (by decide) (by decide), v58.1]
    refine z_istore_n g dX11_passes_22 (by rw [hN]; decide) ?_
    refine z_iconst (v := 0) g dX11_passes_23 (by decide) ?_
    refine z_istore_n g dX11_passes_24 (by rw [hN]; decide) ?_
    first
      | (have hm : manyA S = cn S 58 := if_pos (by rw [nI_leI (by omega) (by omega)] at c_8; exact c_8)
         rw [← hm]
         exact z_to (loop1 _ 0 M rfl hM fr0) ⟨rfl, rfl, rfl, trivial⟩)
      | (have hm : manyA S = cn S 59 := if_neg (by rw [nI_leI (by omega) (by omega)] at c_8; exact c_8)
         rw [← hm]
         exact z_to (loop1 _ 0 M rfl hM fr0) ⟨rfl, rfl, rfl, trivial⟩)
  · refine z_aload_n g dX11_passes_11 rfl ?_
    refine z_getI g fl_X11_161 hM.k0 (by decide) rfl dX11_passes_12 ?_
    rw [show fI _ m 59 = gi S 59 from hM.sc (k := 59) (by decide) (by decide), v59.1]
    refine z_goto (tgt := 22) g dX11_passes_15 (by decide) ?_
    refine z_istore_n g dX11_passes_22 (by rw [hN]; decide) ?_
    refine z_iconst (v := 0) g dX11_passes_23 (by decide) ?_
    refine z_istore_n g dX11_passes_24 (by rw [hN]; decide) ?_
    first
      | (have hm : manyA S = cn S 58 := if_pos (by rw [nI_leI (by omega) (by omega)] at c_8; exact c_8)
         rw [← hm]
         exact z_to (loop1 _ 0 M rfl hM fr0) ⟨rfl, rfl, rfl, trivial⟩)
      | (have hm : manyA S = cn S 59 := if_neg (by rw [nI_leI (by omega) (by omega)] at c_8; exact c_8)
         rw [← hm]
         exact z_to (loop1 _ 0 M rfl hM fr0) ⟨rfl, rfl, rfl, trivial⟩)
set_option maxHeartbeats 4000000 in
set_option maxRecDepth 100000 in
theorem m_pass (E : Ev) {A : Nat → Nat} {m : Nat} {S : Ms} (M : Mm) (hM : RM A m S M) (hV : INV S) (dd : Int32) (hI_ : ∀ n, dd = nI n → ∀ j, j < n → INV (psN (wi S 0 0) j)) : CT E yX11_pass cX11_pass 3 (some .int) 6 0 0 [.ref m, .int dd] M (mAns A m (opS (cPass S dd) S (sPass S dd)) M (some (.int (opV (cPass S dd) (vPass S dd) 0)))) noX := by
  refine CT.of rfl (Nat.le_of_ble_eq_true rfl) (fun X g hrt hno hE hN hR hI => ?_)
  subst hE
  obtain ⟨v1, v2, v17, v24, v31, v36, v51, v58, v59⟩ := hV.1
  have hV0 := hV
  obtain ⟨-, vF, vN, vM, vL, vX, vP, vQ, vT, vR, vS, vO⟩ := hV
  have fr0 := FM.rf (A := A) (m := m) (M := M)
  refine z_aload_n g dX11_pass_0 rfl ?_
  refine z_iload_n g dX11_pass_1 rfl ?_
  refine z_iconst (v := 1) g dX11_pass_2 (by decide) ?_
  refine z_sipush (v := 400) g dX11_pass_3 (by decide) ?_
  refine z_callS g _ _ cs_X11_189 (n_in _ M dd 1 400) rfl (by rw [hR]; decide) (by rw [hR]; decide) (by rw [hR]; decide) (Nat.le_of_ble_eq_true rfl) rfl dX11_pass_6 (fun _ _ h => False.elim h) (fun r_6 M_6 h_6 => ?_)
  obtain ⟨rfl, rfl⟩ := h_6
  refine z_if_ne (tgt := 16) g dX11_pass_9 (by decide) (fun c_9 => ?_) (fun c_9 => ?_)
  · first | rw [b2i_0] at c_9 | rw [b2i_n0] at c_9 | skip
    refine z_aload_n g dX11_pass_16 rfl ?_
    refine z_getI g fl_X11_238 hM.k0 (by decide) rfl dX11_pass_17 ?_
    rw [show fI _ m 1 = gi S 1 from hM.sc (k := 1) (by decide) (by decide)]
    refine z_iload_n g dX11_pass_20 rfl ?_
    refine z_iadd g dX11_pass_21 ?_
    refine z_sipush (v := 9999) g dX11_pass_22 (by decide) ?_
    refine z_icmp_le (tgt := 32) g dX11_pass_25 (by decide) (fun c_25 => ?_) (fun c_25 => ?_)
    · refine z_iconst (v := 0) g dX11_pass_32 (by decide) ?_
      have hc : cPass S dd = 0 := by simp [cPass, c_9, eq_true c_25]
      refine z_callV g _ _ cv_X11_234 (n_holds _ M hM fr0 0) hM.k0 (by decide) rfl (by rw [hR]; decide) (by rw [hR]; decide) (by rw [hR]; decide) (Nat.le_of_ble_eq_true rfl) rfl dX11_pass_33 (fun _ _ h => False.elim h) (fun r_33 M1 h_33 => ?_)
      obtain ⟨rfl, hM1, fr1⟩ := h_33
      refine z_if_ne (tgt := 41) g dX11_pass_36 (by decide) (fun _ => ?_) (fun c_36 => absurd c_36 (by decide))
      refine z_iconst (v := 0) g dX11_pass_41 (by decide) ?_
      refine z_istore_n g dX11_pass_42 (by rw [hN]; decide) ?_
      obtain ⟨n4, hn41, hn42, rfl⟩ : ∃ n4, 1 ≤ n4 ∧ n4 ≤ 400 ∧ dd = nI n4 := inb (v := dd) (a := 1) (b := 400) (by decide) (by rw [← Bool.not_eq_false]; exact c_9) (by decide)
      have hn4c : (nI n4).toNatClampNeg = n4 := nI_clamp (by omega)
      have loop : ∀ (k j : Nat) (M1 : Mm) (hk : k + j = n4) (hM1 : RM A m (psN (wi S 0 0) j) M1) (fr1 : FM A m M M1), Z X M1 0 0 43 [(0, .ref m), (1, .int (nI n4)), (2, .int (nI j))] [] := by
        intro k
        induction k using Nat.strongRecOn with
        | _ k ih =>
          intro j M1 hk hM1 fr1
          refine z_iload_n g dX11_pass_43 rfl ?_
          refine z_iload_n g dX11_pass_44 rfl ?_
          refine z_icmp_ge (tgt := 58) g dX11_pass_45 (by decide) (fun c_45 => ?_) (fun c_45 => ?_)
          · rw [nI_leI (by omega) (by omega)] at c_45
            have hj : j = n4 := by omega
            subst hj
            refine z_aload_n g dX11_pass_58 rfl ?_
            refine z_getI g fl_X11_238 hM1.k0 (by decide) rfl dX11_pass_59 ?_
            rw [hM1.sc (k := 1) (by decide) (by decide)]
            exact z_iret g hrt rfl (by decide) (by decide) dX11_pass_62 ⟨by rw [hc, opV_0, vPass, hn4c], by rw [hc, opS_0, sPass, hn4c]; exact hM1, fr1⟩
          have h45 : j < n4 := by rw [nI_leI (by omega) (by omega)] at c_45; omega
          refine z_aload_n g dX11_pass_48 rfl ?_
          refine z_callV g _ _ cv_X11_346 (n_pss _ M1 hM1 (hI_ n4 rfl j (by omega))) hM1.k0 (by decide) rfl (by rw [hR]; decide) (by rw [hR]; decide) (by rw [hR]; decide) (Nat.le_of_ble_eq_true rfl) rfl dX11_pass_49 (fun _ _ h => False.elim h) (fun r_49 M_49 h_49 => ?_)
          obtain ⟨rfl, hM2, fr2⟩ := h_49
          refine z_iinc1 g dX11_pass_52 rfl (by rw [hN]; decide) ?_
          refine z_goto (tgt := 43) g dX11_pass_55 (by decide) ?_
          rw [nI_s]
          exact z_to (ih (k - 1) (by omega) (j + 1) M_49 (by omega) hM2 (fr1.tr fr2)) ⟨rfl, rfl, rfl, trivial⟩
      exact z_to (loop _ 0 M1 rfl hM1 fr1) ⟨rfl, rfl, rfl, trivial⟩
    · refine z_iconst (v := 2) g dX11_pass_28 (by decide) ?_
      refine z_goto (tgt := 33) g dX11_pass_29 (by decide) ?_
      have hc : cPass S dd = 2 := by simp [cPass, c_9, eq_false c_25]
      refine z_callV g _ _ cv_X11_234 (n_holds _ M hM fr0 2) hM.k0 (by decide) rfl (by rw [hR]; decide) (by rw [hR]; decide) (by rw [hR]; decide) (Nat.le_of_ble_eq_true rfl) rfl dX11_pass_33 (fun _ _ h => False.elim h) (fun r_33 M2 h_33 => ?_)
      obtain ⟨rfl, hM2, fr2⟩ := h_33
      refine z_if_ne (tgt := 41) g dX11_pass_36 (by decide) (fun c_36 => absurd c_36 (by decide)) (fun _ => ?_)
      refine z_iconst (v := 0) g dX11_pass_39 (by decide) ?_
      exact z_iret g hrt rfl (by decide) (by decide) dX11_pass_40 ⟨by rw [hc, opV_2], by rw [hc, opS_2]; exact hM2, fr2⟩
  · first | rw [b2i_0] at c_9 | rw [b2i_n0] at c_9 | skip
    refine z_iconst (v := 1) g dX11_pass_12 (by decide) ?_
    refine z_goto (tgt := 33) g dX11_pass_13 (by decide) ?_
    have hc : cPass S dd = 1 := by simp [cPass, c_9]
    refine z_callV g _ _ cv_X11_234 (n_holds _ M hM fr0 1) hM.k0 (by decide) rfl (by rw [hR]; decide) (by rw [hR]; decide) (by rw [hR]; decide) (Nat.le_of_ble_eq_true rfl) rfl dX11_pass_33 (fun _ _ h => False.elim h) (fun r_33 M3 h_33 => ?_)
    obtain ⟨rfl, hM3, fr3⟩ := h_33
    refine z_if_ne (tgt := 41) g dX11_pass_36 (by decide) (fun c_36 => absurd c_36 (by decide)) (fun _ => ?_)
    refine z_iconst (v := 0) g dX11_pass_39 (by decide) ?_
    exact z_iret g hrt rfl (by decide) (by decide) dX11_pass_40 ⟨by rw [hc, opV_1], by rw [hc, opS_1]; exact hM3, fr3⟩
