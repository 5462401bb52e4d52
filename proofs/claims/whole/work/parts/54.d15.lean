/-! ===== the model: what readings cost, assignments (printed by gen/mod_d15.py) ===== -/
set_option maxHeartbeats 4000000 in
set_option maxRecDepth 100000 in
theorem n_cst (E : Ev) {A : Nat → Nat} {m : Nat} {S : Ms} (M : Mm) (hM : RM A m S M) (hV : INV S) (rd f : Nat) (hr : rd < cn S 51) (hf : f < cn S 2) : CT E yX11_costs cX11_costs 6 (some .int) 3 0 0 [.ref m, .int (nI rd), .int (nI f)] M ((fun r' M' => r' = some (.int (cstA S rd f)) ∧ SE A m M M')) noX := by
  refine CT.of rfl (Nat.le_of_ble_eq_true rfl) (fun X g hrt hno hE hN hR hI => ?_)
  subst hE
  obtain ⟨⟨v1, v2, v17, -, -, -, v51, -⟩, vF, -, vM, -, -, -, -, -, vR, -⟩ := id hV
  have hf24 := v2.2
  have hn100 := v17.2
  have hr4 := v51.2
  have hwr := (vR rd hr).1
  have hu : LW 12 (wr (gL S 52 rd)).reverse := hwr.LW.rev
  have tail : ∀ (M1 : Mm) (se : SE A m M M1), Z X M1 0 0 72 [(0, .ref m), (1, .int (nI rd)), (2, .int (nI f)), (3, .int (cstL S rd f (cn S 17)))] [] := by
    intro M1 se
    have hM1 := hM.SE se
    refine z_iload_n g dX11_costs_72 rfl ?_
    refine z_iconst (v := (-1)) g dX11_costs_73 (by decide) ?_
    refine z_icmp_eq (tgt := 93) g dX11_costs_74 (by decide) (fun c_74 => ?_) (fun c_74 => ?_)
    · refine z_iconst (v := (-1)) g dX11_costs_93 (by decide) ?_
      exact z_iret g hrt rfl (by decide) (by decide) dX11_costs_94 ⟨by rw [cstA]; simp [eq_true c_74], se⟩
    · refine z_aload_n g dX11_costs_77 rfl ?_
      refine z_iload_n g dX11_costs_78 rfl ?_
      refine z_aload_n g dX11_costs_79 rfl ?_
      refine z_getI g fl_X11_238 hM1.k0 (by decide) rfl dX11_costs_80 ?_
      rw [hM1.sc (k := 1) (by decide) (by decide)]
      refine z_aload_n g dX11_costs_83 rfl ?_
      refine z_getI g fl_X11_238 hM1.k0 (by decide) rfl dX11_costs_84 ?_
      rw [hM1.sc (k := 1) (by decide) (by decide)]
      refine z_callV g _ _ cv_X11_254 (n_thA _ M1 hM1 f (by omega) (gi S 1) (gi S 1)) hM1.k0 (by decide) rfl (by rw [hR]; decide) (by rw [hR]; decide) (by rw [hR]; decide) (Nat.le_of_ble_eq_true rfl) rfl dX11_costs_87 (fun _ _ h => False.elim h) (fun r_87 M_87 h_87 => ?_)
      obtain ⟨rfl, rfl⟩ := h_87
      refine z_if_ne (tgt := 95) g dX11_costs_90 (by decide) (fun c_90 => ?_) (fun c_90 => ?_)
      · first | rw [b2i_0] at c_90 | rw [b2i_n0] at c_90 | skip
        refine z_bipush (v := 10) g dX11_costs_95 (by decide) ?_
        refine z_iload_n g dX11_costs_97 rfl ?_
        refine z_imul g dX11_costs_98 ?_
        refine z_aload_n g dX11_costs_99 rfl ?_
        refine z_iload_n g dX11_costs_100 rfl ?_
        refine z_aload_n g dX11_costs_101 rfl ?_
        refine z_getR g fl_X11_146 hM1.k0 (by decide) rfl (hM1.ref (k := 53) (by decide)) dX11_costs_102 ?_
        refine z_iload_n g dX11_costs_105 rfl ?_
        refine z_ialdk g (hM1.kA1 (k := 53) (by decide)) (by decide) (vp_in_nI (by rw [hM1.lnI (k := 53) (by decide)]; show _ < 4; omega) (by rw [hM1.lnI (k := 53) (by decide)]; decide)) dX11_costs_106 ?_
        rw [nI_clamp (by omega), hM1.row (k := 53) (by decide) (by decide)]
        refine z_aload_n g dX11_costs_107 rfl ?_
        refine z_getR g fl_X11_149 hM1.k0 (by decide) rfl (hM1.ref (k := 54) (by decide)) dX11_costs_108 ?_
        refine z_iload_n g dX11_costs_111 rfl ?_
        refine z_ialdk g (hM1.kA1 (k := 54) (by decide)) (by decide) (vp_in_nI (by rw [hM1.lnI (k := 54) (by decide)]; show _ < 4; omega) (by rw [hM1.lnI (k := 54) (by decide)]; decide)) dX11_costs_112 ?_
        rw [nI_clamp (by omega), hM1.row (k := 54) (by decide) (by decide)]
        refine z_callV g _ _ cv_X11_315 (n_awy _ M1 hM1 hV f hf (gA S 53 rd) (gA S 54 rd)) hM1.k0 (by decide) rfl (by rw [hR]; decide) (by rw [hR]; decide) (by rw [hR]; decide) (Nat.le_of_ble_eq_true rfl) rfl dX11_costs_113 (fun _ _ h => False.elim h) (fun r_113 M_113 h_113 => ?_)
        obtain ⟨rfl, rfl⟩ := h_113
        refine z_iadd g dX11_costs_116 ?_
        refine z_istore g dX11_costs_117 (by rw [hN]; decide) ?_
        refine z_iload g dX11_costs_119 rfl ?_
        refine z_bipush (v := 60) g dX11_costs_121 (by decide) ?_
        refine z_icmp_gt (tgt := 131) g dX11_costs_123 (by decide) (fun c_123 => ?_) (fun c_123 => ?_)
        · refine z_iconst (v := (-1)) g dX11_costs_131 (by decide) ?_
          exact z_iret g hrt rfl (by decide) (by decide) dX11_costs_132 ⟨by rw [cstA]; simp [eq_false c_74, c_90, eq_true c_123], se⟩
        · refine z_iload g dX11_costs_126 rfl ?_
          refine z_goto (tgt := 132) g dX11_costs_128 (by decide) ?_
          exact z_iret g hrt rfl (by decide) (by decide) dX11_costs_132 ⟨by rw [cstA]; simp [eq_false c_74, c_90, eq_false c_123], se⟩
      · first | rw [b2i_0] at c_90 | rw [b2i_n0] at c_90 | skip
        refine z_iconst (v := (-1)) g dX11_costs_93 (by decide) ?_
        exact z_iret g hrt rfl (by decide) (by decide) dX11_costs_94 ⟨by rw [cstA]; simp [eq_false c_74, c_90], se⟩
  have loop : ∀ (k j : Nat) (M1 : Mm) (hk : k + j = cn S 17) (se : SE A m M M1) (hL : Lt A m M1 (wr (gL S 52 rd)).reverse), Z X M1 0 0 15 [(0, .ref m), (1, .int (nI rd)), (2, .int (nI f)), (3, .int (cstL S rd f j)), (4, .int (nI j))] [] := by
    intro k
    induction k using Nat.strongRecOn with
    | _ k ih =>
      intro j M1 hk se hL
      have hM1 := hM.SE se
      refine z_iload g dX11_costs_15 rfl ?_
      refine z_aload_n g dX11_costs_17 rfl ?_
      refine z_getI g fl_X11_201 hM1.k0 (by decide) rfl dX11_costs_18 ?_
      rw [hM1.sc (k := 17) (by decide) (by decide)]
      rw [v17.1]
      refine z_icmp_ge (tgt := 72) g dX11_costs_21 (by decide) (fun c_21 => ?_) (fun c_21 => ?_)
      · rw [nI_leI (by omega) (by omega)] at c_21
        rw [show j = cn S 17 by omega]
        exact z_to (tail M1 se) ⟨rfl, rfl, rfl, rfl, trivial⟩
      have h21 : j < cn S 17 := by rw [nI_leI (by omega) (by omega)] at c_21; omega
      have hwj := (vM j h21).2.2.2.1
      refine z_aload_n g dX11_costs_24 rfl ?_
      refine z_getR g fl_X11_52 hM1.k0 (by decide) rfl (hM1.ref (k := 18) (by decide)) dX11_costs_25 ?_
      refine z_iload g dX11_costs_28 rfl ?_
      refine z_ialdk g (hM1.kA1 (k := 18) (by decide)) (by decide) (vp_in_nI (by rw [hM1.lnI (k := 18) (by decide)]; show _ < 100; omega) (by rw [hM1.lnI (k := 18) (by decide)]; decide)) dX11_costs_30 ?_
      rw [nI_clamp (by omega), hM1.row (k := 18) (by decide) (by decide)]
      refine z_iload_n g dX11_costs_31 rfl ?_
      refine z_icmp_ne (tgt := 66) g dX11_costs_32 (by decide) (fun c_32 => ?_) (fun c_32 => ?_)
      · refine z_iinc1 g dX11_costs_66 rfl (by rw [hN]; decide) ?_
        refine z_goto (tgt := 15) g dX11_costs_69 (by decide) ?_
        rw [nI_s]
        have hs := ih (k - 1) (by omega) (j + 1) M1 (by omega) se hL
        first
          | (rw [show cstL S rd f (j + 1) = nI (lev (wr (gL S 52 rd)) (wr (gL S 20 j))) by rw [cstL, if_pos (by first | exact Classical.not_not.mp c_32 | exact c_32), if_pos (by first | exact Or.inl c_50 | exact Or.inr c_56)]] at hs
             exact z_to hs ⟨rfl, rfl, rfl, rfl, rfl, trivial⟩)
          | (rw [show cstL S rd f (j + 1) = cstL S rd f j by rw [cstL, if_pos c_32, if_neg (fun z => z.elim c_50 (fun y => y c_56))]] at hs
             exact z_to hs ⟨rfl, rfl, rfl, rfl, rfl, trivial⟩)
          | (rw [show cstL S rd f (j + 1) = cstL S rd f j by rw [cstL, if_neg c_32]] at hs
             exact z_to hs ⟨rfl, rfl, rfl, rfl, rfl, trivial⟩)
      · refine z_aload_n g dX11_costs_35 rfl ?_
        refine z_aload_n g dX11_costs_36 rfl ?_
        refine z_getR g fl_X11_58 hM1.k0 (by decide) rfl (hM1.refL (k := 20) (by decide)) dX11_costs_37 ?_
        refine z_iload g dX11_costs_40 rfl ?_
        refine z_laldk g (hM1.kL1 (k := 20) (by decide)) (by decide) (vp_in_nI (by rw [hM1.lnL (k := 20) (by decide)]; show _ < 100; omega) (by rw [hM1.lnL (k := 20) (by decide)]; decide)) dX11_costs_42 ?_
        rw [nI_clamp (by omega), hM1.rowL (k := 20) (by decide)]
        rw [hwj.2.2]
        refine z_callV g _ _ cv_X11_311 (n_chs _ M1 hM1 _ _ hu hwj.LW hL) hM1.k0 (by decide) rfl (by rw [hR]; decide) (by rw [hR]; decide) (by rw [hR]; decide) (Nat.le_of_ble_eq_true rfl) rfl dX11_costs_43 (fun _ _ h => False.elim h) (fun r_43 M_43 h_43 => ?_)
        obtain ⟨rfl, se2, hL2⟩ := h_43
        rw [List.reverse_reverse]
        refine z_istore g dX11_costs_46 (by rw [hN]; decide) ?_
        refine z_iload_n g dX11_costs_48 rfl ?_
        refine z_iconst (v := (-1)) g dX11_costs_49 (by decide) ?_
        refine z_icmp_eq (tgt := 59) g dX11_costs_50 (by decide) (fun c_50 => ?_) (fun c_50 => ?_)
        · refine z_iload g dX11_costs_59 rfl ?_
          refine z_goto (tgt := 65) g dX11_costs_61 (by decide) ?_
          refine z_istore_n g dX11_costs_65 (by rw [hN]; decide) ?_
          refine z_iinc1 g dX11_costs_66 rfl (by rw [hN]; decide) ?_
          refine z_goto (tgt := 15) g dX11_costs_69 (by decide) ?_
          rw [nI_s]
          have hs := ih (k - 1) (by omega) (j + 1) M_43 (by omega) (se.tr se2) hL2
          first
            | (rw [show cstL S rd f (j + 1) = nI (lev (wr (gL S 52 rd)) (wr (gL S 20 j))) by rw [cstL, if_pos (by first | exact Classical.not_not.mp c_32 | exact c_32), if_pos (by first | exact Or.inl c_50 | exact Or.inr c_56)]] at hs
               exact z_to hs ⟨rfl, rfl, rfl, rfl, rfl, trivial⟩)
            | (rw [show cstL S rd f (j + 1) = cstL S rd f j by rw [cstL, if_pos c_32, if_neg (fun z => z.elim c_50 (fun y => y c_56))]] at hs
               exact z_to hs ⟨rfl, rfl, rfl, rfl, rfl, trivial⟩)
            | (rw [show cstL S rd f (j + 1) = cstL S rd f j by rw [cstL, if_neg c_32]] at hs
               exact z_to hs ⟨rfl, rfl, rfl, rfl, rfl, trivial⟩)
        · refine z_iload g dX11_costs_53 rfl ?_
          refine z_iload_n g dX11_costs_55 rfl ?_
          refine z_icmp_ge (tgt := 64) g dX11_costs_56 (by decide) (fun c_56 => ?_) (fun c_56 => ?_)
          · refine z_iload_n g dX11_costs_64 rfl ?_
            refine z_istore_n g dX11_costs_65 (by rw [hN]; decide) ?_
            refine z_iinc1 g dX11_costs_66 rfl (by rw [hN]; decide) ?_
            refine z_goto (tgt := 15) g dX11_costs_69 (by decide) ?_
            rw [nI_s]
            have hs := ih (k - 1) (by omega) (j + 1) M_43 (by omega) (se.tr se2) hL2
            first
              | (rw [show cstL S rd f (j + 1) = nI (lev (wr (gL S 52 rd)) (wr (gL S 20 j))) by rw [cstL, if_pos (by first | exact Classical.not_not.mp c_32 | exact c_32), if_pos (by first | exact Or.inl c_50 | exact Or.inr c_56)]] at hs
                 exact z_to hs ⟨rfl, rfl, rfl, rfl, rfl, trivial⟩)
              | (rw [show cstL S rd f (j + 1) = cstL S rd f j by rw [cstL, if_pos c_32, if_neg (fun z => z.elim c_50 (fun y => y c_56))]] at hs
                 exact z_to hs ⟨rfl, rfl, rfl, rfl, rfl, trivial⟩)
              | (rw [show cstL S rd f (j + 1) = cstL S rd f j by rw [cstL, if_neg c_32]] at hs
                 exact z_to hs ⟨rfl, rfl, rfl, rfl, rfl, trivial⟩)
          · refine z_iload g dX11_costs_59 rfl ?_
            refine z_goto (tgt := 65) g dX11_costs_61 (by decide) ?_
            refine z_istore_n g dX11_costs_65 (by rw [hN]; decide) ?_
            refine z_iinc1 g dX11_costs_66 rfl (by rw [hN]; decide) ?_
            refine z_goto (tgt := 15) g dX11_costs_69 (by decide) ?_
            rw [nI_s]
            have hs := ih (k - 1) (by omega) (j + 1) M_43 (by omega) (se.tr se2) hL2
            first
              | (rw [show cstL S rd f (j + 1) = nI (lev (wr (gL S 52 rd)) (wr (gL S 20 j))) by rw [cstL, if_pos (by first | exact Classical.not_not.mp c_32 | exact c_32), if_pos (by first | exact Or.inl c_50 | exact Or.inr c_56)]] at hs
                 exact z_to hs ⟨rfl, rfl, rfl, rfl, rfl, trivial⟩)
              | (rw [show cstL S rd f (j + 1) = cstL S rd f j by rw [cstL, if_pos c_32, if_neg (fun z => z.elim c_50 (fun y => y c_56))]] at hs
                 exact z_to hs ⟨rfl, rfl, rfl, rfl, rfl, trivial⟩)
              | (rw [show cstL S rd f (j + 1) = cstL S rd f j by rw [cstL, if_neg c_32]] at hs
                 exact z_to hs ⟨rfl, rfl, rfl, rfl, rfl, trivial⟩)
  refine z_iconst (v := (-1)) g dX11_costs_0 (by decide) ?_
  refine z_istore_n g dX11_costs_1 (by rw [hN]; decide) ?_
  refine z_aload_n g dX11_costs_2 rfl ?_
  refine z_aload_n g dX11_costs_3 rfl ?_
  refine z_getR g fl_X11_143 hM.k0 (by decide) rfl (hM.refL (k := 52) (by decide)) dX11_costs_4 ?_
  refine z_iload_n g dX11_costs_7 rfl ?_
  refine z_laldk g (hM.kL1 (k := 52) (by decide)) (by decide) (vp_in_nI (by rw [hM.lnL (k := 52) (by decide)]; show _ < 4; omega) (by rw [hM.lnL (k := 52) (by decide)]; decide)) dX11_costs_8 ?_
  rw [nI_clamp (by omega), hM.rowL (k := 52) (by decide)]
  rw [hwr.2.2]
  refine z_callV g _ _ cv_X11_211 (n_lays _ M hM _ hwr.LW) hM.k0 (by decide) rfl (by rw [hR]; decide) (by rw [hR]; decide) (by rw [hR]; decide) (Nat.le_of_ble_eq_true rfl) rfl dX11_costs_9 (fun _ _ h => False.elim h) (fun r_9 M_9 h_9 => ?_)
  obtain ⟨rfl, se, hLt⟩ := h_9
  refine z_iconst (v := 0) g dX11_costs_12 (by decide) ?_
  refine z_istore g dX11_costs_13 (by rw [hN]; decide) ?_
  exact z_to (loop _ 0 M_9 rfl se hLt) ⟨rfl, rfl, rfl, rfl, rfl, trivial⟩
set_option maxHeartbeats 4000000 in
set_option maxRecDepth 100000 in
theorem m_cost (E : Ev) {A : Nat → Nat} {m : Nat} {S : Ms} (M : Mm) (hM : RM A m S M) (hV : INV S) (rd f : Int32) : CT E yX11_cost cX11_cost 3 (some .int) 6 0 0 [.ref m, .int rd, .int f] M (mAns A m (opS (cCost S rd f) S (sCost S rd f)) M (some (.int (opV (cCost S rd f) (vCost S rd f) 0)))) noX := by
  refine CT.of rfl (Nat.le_of_ble_eq_true rfl) (fun X g hrt hno hE hN hR hI => ?_)
  subst hE
  obtain ⟨v1, v2, v17, v24, v31, v36, v51, v58, v59⟩ := hV.1
  have hV0 := hV
  obtain ⟨-, vF, vN, vM, vL, vX, vP, vQ, vT, vR, vS, vO⟩ := hV
  have fr0 := FM.rf (A := A) (m := m) (M := M)
  rcases inN (n := cn S 2) (by have := v2.2; omega) f with hF | ⟨j, hj, rfl, hF⟩
  · rw [← v2.1] at hF
    refine z_aload_n g dX11_cost_0 rfl ?_
    refine z_iload_n g dX11_cost_1 rfl ?_
    refine z_iconst (v := 0) g dX11_cost_2 (by decide) ?_
    refine z_aload_n g dX11_cost_3 rfl ?_
    refine z_getI g fl_X11_305 hM.k0 (by decide) rfl dX11_cost_4 ?_
    rw [show fI _ m 51 = gi S 51 from hM.sc (k := 51) (by decide) (by decide)]
    refine z_iconst (v := 1) g dX11_cost_7 (by decide) ?_
    refine z_isub g dX11_cost_8 ?_
    refine z_callS g _ _ cs_X11_189 (n_in _ M rd 0 (gi S 51 - 1)) rfl (by rw [hR]; decide) (by rw [hR]; decide) (by rw [hR]; decide) (Nat.le_of_ble_eq_true rfl) rfl dX11_cost_9 (fun _ _ h => False.elim h) (fun r_9 M_9 h_9 => ?_)
    obtain ⟨rfl, rfl⟩ := h_9
    refine z_if_eq (tgt := 27) g dX11_cost_12 (by decide) (fun c_12 => ?_) (fun c_12 => ?_)
    · first | rw [b2i_0] at c_12 | rw [b2i_n0] at c_12 | skip
      refine z_iconst (v := 1) g dX11_cost_27 (by decide) ?_
      have hc : cCost S rd f = 1 := by simp [cCost, isF, hF, c_12]
      refine z_callV g _ _ cv_X11_234 (n_holds _ M hM fr0 1) hM.k0 (by decide) rfl (by rw [hR]; decide) (by rw [hR]; decide) (by rw [hR]; decide) (Nat.le_of_ble_eq_true rfl) rfl dX11_cost_28 (fun _ _ h => False.elim h) (fun r_28 M1 h_28 => ?_)
      obtain ⟨rfl, hM1, fr1⟩ := h_28
      refine z_if_eq (tgt := 43) g dX11_cost_31 (by decide) (fun _ => ?_) (fun c_31 => absurd c_31 (by decide))
      refine z_iconst (v := 0) g dX11_cost_43 (by decide) ?_
      exact z_iret g hrt rfl (by decide) (by decide) dX11_cost_44 ⟨by rw [hc, opV_1], by rw [hc, opS_1]; exact hM1, fr1⟩
    · first | rw [b2i_0] at c_12 | rw [b2i_n0] at c_12 | skip
      refine z_aload_n g dX11_cost_15 rfl ?_
      refine z_iload_n g dX11_cost_16 rfl ?_
      refine z_callV g _ _ cv_X11_245 (n_isF _ M hM f) hM.k0 (by decide) rfl (by rw [hR]; decide) (by rw [hR]; decide) (by rw [hR]; decide) (Nat.le_of_ble_eq_true rfl) rfl dX11_cost_17 (fun _ _ h => False.elim h) (fun r_17 M_17 h_17 => ?_)
      obtain ⟨rfl, rfl⟩ := h_17
      rw [hF]
      refine z_if_eq (tgt := 27) g dX11_cost_20 (by decide) (fun _ => ?_) (fun c_20 => absurd c_20 (by decide))
      refine z_iconst (v := 1) g dX11_cost_27 (by decide) ?_
      have hc : cCost S rd f = 1 := by simp [cCost, isF, hF, c_12]
      refine z_callV g _ _ cv_X11_234 (n_holds _ M hM fr0 1) hM.k0 (by decide) rfl (by rw [hR]; decide) (by rw [hR]; decide) (by rw [hR]; decide) (Nat.le_of_ble_eq_true rfl) rfl dX11_cost_28 (fun _ _ h => False.elim h) (fun r_28 M2 h_28 => ?_)
      obtain ⟨rfl, hM2, fr2⟩ := h_28
      refine z_if_eq (tgt := 43) g dX11_cost_31 (by decide) (fun _ => ?_) (fun c_31 => absurd c_31 (by decide))
      refine z_iconst (v := 0) g dX11_cost_43 (by decide) ?_
      exact z_iret g hrt rfl (by decide) (by decide) dX11_cost_44 ⟨by rw [hc, opV_1], by rw [hc, opS_1]; exact hM2, fr2⟩
  · rw [← v2.1] at hF
    have hj24 : j < 24 := by have := v2.2; omega
    refine z_aload_n g dX11_cost_0 rfl ?_
    refine z_iload_n g dX11_cost_1 rfl ?_
    refine z_iconst (v := 0) g dX11_cost_2 (by decide) ?_
    refine z_aload_n g dX11_cost_3 rfl ?_
    refine z_getI g fl_X11_305 hM.k0 (by decide) rfl dX11_cost_4 ?_
    rw [show fI _ m 51 = gi S 51 from hM.sc (k := 51) (by decide) (by decide)]
    refine z_iconst (v := 1) g dX11_cost_7 (by decide) ?_
    refine z_isub g dX11_cost_8 ?_
    refine z_callS g _ _ cs_X11_189 (n_in _ M rd 0 (gi S 51 - 1)) rfl (by rw [hR]; decide) (by rw [hR]; decide) (by rw [hR]; decide) (Nat.le_of_ble_eq_true rfl) rfl dX11_cost_9 (fun _ _ h => False.elim h) (fun r_9 M_9 h_9 => ?_)
    obtain ⟨rfl, rfl⟩ := h_9
    refine z_if_eq (tgt := 27) g dX11_cost_12 (by decide) (fun c_12 => ?_) (fun c_12 => ?_)
    · first | rw [b2i_0] at c_12 | rw [b2i_n0] at c_12 | skip
      refine z_iconst (v := 1) g dX11_cost_27 (by decide) ?_
      have hc : cCost S rd (nI j) = 1 := by simp [cCost, isF, hF, c_12]
      refine z_callV g _ _ cv_X11_234 (n_holds _ M hM fr0 1) hM.k0 (by decide) rfl (by rw [hR]; decide) (by rw [hR]; decide) (by rw [hR]; decide) (Nat.le_of_ble_eq_true rfl) rfl dX11_cost_28 (fun _ _ h => False.elim h) (fun r_28 M1 h_28 => ?_)
      obtain ⟨rfl, hM1, fr1⟩ := h_28
      refine z_if_eq (tgt := 43) g dX11_cost_31 (by decide) (fun _ => ?_) (fun c_31 => absurd c_31 (by decide))
      refine z_iconst (v := 0) g dX11_cost_43 (by decide) ?_
      exact z_iret g hrt rfl (by decide) (by decide) dX11_cost_44 ⟨by rw [hc, opV_1], by rw [hc, opS_1]; exact hM1, fr1⟩
    · first | rw [b2i_0] at c_12 | rw [b2i_n0] at c_12 | skip
      refine z_aload_n g dX11_cost_15 rfl ?_
      refine z_iload_n g dX11_cost_16 rfl ?_
      refine z_callV g _ _ cv_X11_245 (n_isF _ M hM (nI j)) hM.k0 (by decide) rfl (by rw [hR]; decide) (by rw [hR]; decide) (by rw [hR]; decide) (Nat.le_of_ble_eq_true rfl) rfl dX11_cost_17 (fun _ _ h => False.elim h) (fun r_17 M_17 h_17 => ?_)
      obtain ⟨rfl, rfl⟩ := h_17
      rw [hF]
      refine z_if_eq (tgt := 27) g dX11_cost_20 (by decide) (fun c_20 => absurd c_20 (by decide)) (fun _ => ?_)
      refine z_iconst (v := 0) g dX11_cost_23 (by decide) ?_
      refine z_goto (tgt := 28) g dX11_cost_24 (by decide) ?_
      have hc : cCost S rd (nI j) = 0 := by simp [cCost, isF, hF, c_12]
      refine z_callV g _ _ cv_X11_234 (n_holds _ M hM fr0 0) hM.k0 (by decide) rfl (by rw [hR]; decide) (by rw [hR]; decide) (by rw [hR]; decide) (Nat.le_of_ble_eq_true rfl) rfl dX11_cost_28 (fun _ _ h => False.elim h) (fun r_28 M2 h_28 => ?_)
      obtain ⟨rfl, hM2, fr2⟩ := h_28
      refine z_if_eq (tgt := 43) g dX11_cost_31 (by decide) (fun c_31 => absurd c_31 (by decide)) (fun _ => ?_)
      obtain ⟨r4, hr4, rfl⟩ : ∃ r4, r4 < cn S 51 ∧ rd = nI r4 := by
        rcases inN (n := cn S 51) (by have := v51.2; omega) rd with z | ⟨r4, q1, q2, -⟩
        · rw [← v51.1] at z; exact absurd z c_12
        · exact ⟨r4, q1, q2⟩
      have hr4b := v51.2
      have hr4c : (nI r4).toNatClampNeg = r4 := nI_clamp (by omega)
      have hcl : (nI j).toNatClampNeg = j := nI_clamp (by omega)
      refine z_aload_n g dX11_cost_34 rfl ?_
      refine z_iload_n g dX11_cost_35 rfl ?_
      refine z_iload_n g dX11_cost_36 rfl ?_
      refine z_callV g _ _ cv_X11_318 (n_cst _ M2 hM2 (INV_wi0 0 hV0) r4 j hr4 hj) hM2.k0 (by decide) rfl (by rw [hR]; decide) (by rw [hR]; decide) (by rw [hR]; decide) (Nat.le_of_ble_eq_true rfl) rfl dX11_cost_37 (fun _ _ h => False.elim h) (fun r_37 M3 h_37 => ?_)
      obtain ⟨rfl, se_37⟩ := h_37
      have hM3 := hM2.SE se_37
      have fr3 := fr2.tr se_37.FM
      rw [cstA_wi0]
      refine z_goto (tgt := 44) g dX11_cost_40 (by decide) ?_
      exact z_iret g hrt rfl (by decide) (by decide) dX11_cost_44 ⟨by rw [hc, opV_0]; rw [vCost, hr4c, hcl], by rw [hc, opS_0]; exact hM3, fr3⟩
set_option maxHeartbeats 4000000 in
set_option maxRecDepth 100000 in
theorem n_joi (E : Ev) {A : Nat → Nat} {m : Nat} {S : Ms} (M : Mm) (hM : RM A m S M) (P : WL) (set b : Nat) (hs : set < 16) (hb : b < 4) (c : Int32) : CT E yX11_joins cX11_joins 5 none 1 0 0 [.ref m, .int (nI set), .int (nI (2 ^ b)), .int c] (W2 M (A 67) (A 66) P) (ansV (W2 M (A 67) (A 66) (joS P set b c))) noX := by
  refine CT.of rfl (Nat.le_of_ble_eq_true rfl) (fun X g hrt hno hE hN hR hI => ?_)
  subst hE
  have hwl : A 67 ≠ A 66 := hM.ne (by decide) (by decide) (by decide)
  have hW := hM.W2 P
  have hrs := (rs_and set hs b hb).2
  refine z_iload_n g dX11_joins_0 rfl ?_
  refine z_iload_n g dX11_joins_1 rfl ?_
  refine z_iconst (v := (-1)) g dX11_joins_2 (by decide) ?_
  refine z_ixor g dX11_joins_3 ?_
  refine z_iand g dX11_joins_4 ?_
  rw [(rs_and set hs b hb).1]
  refine z_istore g dX11_joins_5 (by rw [hN]; decide) ?_
  refine z_iload_n g dX11_joins_7 rfl ?_
  refine z_iconst (v := (-1)) g dX11_joins_8 (by decide) ?_
  refine z_icmp_eq (tgt := 28) g dX11_joins_9 (by decide) (fun c_9 => ?_) (fun c_9 => ?_)
  · exact z_vret g hrt (by decide) (by decide) dX11_joins_28 ⟨rfl, by rw [joS, if_pos (Or.inl c_9)]⟩
  · refine z_iload g dX11_joins_12 rfl ?_
    refine z_iload_n g dX11_joins_14 rfl ?_
    refine z_icmp_eq (tgt := 28) g dX11_joins_15 (by decide) (fun c_15 => ?_) (fun c_15 => ?_)
    · exact z_vret g hrt (by decide) (by decide) dX11_joins_28 ⟨rfl, by rw [joS, if_pos (Or.inr (Or.inl ((nI_eq (by omega) (by omega)).mp c_15)))]⟩
    · refine z_aload_n g dX11_joins_18 rfl ?_
      refine z_getR g fl_X11_180 hW.k0 (by decide) rfl (hW.ref (k := 67) (by decide)) dX11_joins_19 ?_
      refine z_iload g dX11_joins_22 rfl ?_
      refine z_ialdk g (hW.kA1 (k := 67) (by decide)) (by decide) (vp_in_nI (by rw [hW.lnI (k := 67) (by decide)]; show _ < 16; omega) (by rw [hW.lnI (k := 67) (by decide)]; decide)) dX11_joins_24 ?_
      rw [nI_clamp (by omega), W2_w hwl]
      refine z_if_ne (tgt := 29) g dX11_joins_25 (by decide) (fun c_25 => ?_) (fun c_25 => ?_)
      · refine z_aload_n g dX11_joins_29 rfl ?_
        refine z_getR g fl_X11_180 hW.k0 (by decide) rfl (hW.ref (k := 67) (by decide)) dX11_joins_30 ?_
        refine z_iload_n g dX11_joins_33 rfl ?_
        refine z_dup2 g dX11_joins_34 rfl rfl ?_
        refine z_ialdk g (hW.kA1 (k := 67) (by decide)) (by decide) (vp_in_nI (by rw [hW.lnI (k := 67) (by decide)]; show _ < 16; omega) (by rw [hW.lnI (k := 67) (by decide)]; decide)) dX11_joins_35 ?_
        rw [nI_clamp (by omega), W2_w hwl]
        refine z_aload_n g dX11_joins_36 rfl ?_
        refine z_getR g fl_X11_180 hW.k0 (by decide) rfl (hW.ref (k := 67) (by decide)) dX11_joins_37 ?_
        refine z_iload g dX11_joins_40 rfl ?_
        refine z_ialdk g (hW.kA1 (k := 67) (by decide)) (by decide) (vp_in_nI (by rw [hW.lnI (k := 67) (by decide)]; show _ < 16; omega) (by rw [hW.lnI (k := 67) (by decide)]; decide)) dX11_joins_42 ?_
        rw [nI_clamp (by omega), W2_w hwl]
        refine z_iadd g dX11_joins_43 ?_
        refine z_iastk g (hW.kA1 (k := 67) (by decide)) (by decide) (vp_in_nI (by rw [hW.lnI (k := 67) (by decide)]; show _ < 16; omega) (by rw [hW.lnI (k := 67) (by decide)]; decide)) dX11_joins_44 ?_
        rw [nI_clamp (by omega), W2_sw hwl]
        have hW := hM.W2 (pu P.1 set (P.1 set + P.1 (rs set b)), P.2)
        refine z_aload_n g dX11_joins_45 rfl ?_
        refine z_getR g fl_X11_177 hW.k0 (by decide) rfl (hW.ref (k := 66) (by decide)) dX11_joins_46 ?_
        refine z_iload_n g dX11_joins_49 rfl ?_
        refine z_aload_n g dX11_joins_50 rfl ?_
        refine z_getR g fl_X11_177 hW.k0 (by decide) rfl (hW.ref (k := 66) (by decide)) dX11_joins_51 ?_
        refine z_iload_n g dX11_joins_54 rfl ?_
        refine z_ialdk g (hW.kA1 (k := 66) (by decide)) (by decide) (vp_in_nI (by rw [hW.lnI (k := 66) (by decide)]; show _ < 16; omega) (by rw [hW.lnI (k := 66) (by decide)]; decide)) dX11_joins_55 ?_
        rw [nI_clamp (by omega), W2_l]
        refine z_iconst (v := (-1)) g dX11_joins_56 (by decide) ?_
        refine z_icmp_eq (tgt := 78) g dX11_joins_57 (by decide) (fun c_57 => ?_) (fun c_57 => ?_)
        · refine z_aload_n g dX11_joins_78 rfl ?_
          refine z_getR g fl_X11_177 hW.k0 (by decide) rfl (hW.ref (k := 66) (by decide)) dX11_joins_79 ?_
          refine z_iload g dX11_joins_82 rfl ?_
          refine z_ialdk g (hW.kA1 (k := 66) (by decide)) (by decide) (vp_in_nI (by rw [hW.lnI (k := 66) (by decide)]; show _ < 16; omega) (by rw [hW.lnI (k := 66) (by decide)]; decide)) dX11_joins_84 ?_
          rw [nI_clamp (by omega), W2_l]
          refine z_iload_n g dX11_joins_85 rfl ?_
          refine z_iadd g dX11_joins_86 ?_
          refine z_goto (tgt := 96) g dX11_joins_87 (by decide) ?_
          refine z_iastk g (hW.kA1 (k := 66) (by decide)) (by decide) (vp_in_nI (by rw [hW.lnI (k := 66) (by decide)]; show _ < 16; omega) (by rw [hW.lnI (k := 66) (by decide)]; decide)) dX11_joins_96 ?_
          rw [nI_clamp (by omega), W2_sl]
          exact z_vret g hrt (by decide) (by decide) dX11_joins_97 ⟨rfl, by rw [joS, if_neg (fun z => z.elim c_9 (fun y => y.elim (fun q => c_15 (by rw [q])) c_25)), if_pos (Or.inl c_57)]⟩
        · refine z_aload_n g dX11_joins_60 rfl ?_
          refine z_getR g fl_X11_177 hW.k0 (by decide) rfl (hW.ref (k := 66) (by decide)) dX11_joins_61 ?_
          refine z_iload g dX11_joins_64 rfl ?_
          refine z_ialdk g (hW.kA1 (k := 66) (by decide)) (by decide) (vp_in_nI (by rw [hW.lnI (k := 66) (by decide)]; show _ < 16; omega) (by rw [hW.lnI (k := 66) (by decide)]; decide)) dX11_joins_66 ?_
          rw [nI_clamp (by omega), W2_l]
          refine z_iload_n g dX11_joins_67 rfl ?_
          refine z_iadd g dX11_joins_68 ?_
          refine z_aload_n g dX11_joins_69 rfl ?_
          refine z_getR g fl_X11_177 hW.k0 (by decide) rfl (hW.ref (k := 66) (by decide)) dX11_joins_70 ?_
          refine z_iload_n g dX11_joins_73 rfl ?_
          refine z_ialdk g (hW.kA1 (k := 66) (by decide)) (by decide) (vp_in_nI (by rw [hW.lnI (k := 66) (by decide)]; show _ < 16; omega) (by rw [hW.lnI (k := 66) (by decide)]; decide)) dX11_joins_74 ?_
          rw [nI_clamp (by omega), W2_l]
          refine z_icmp_ge (tgt := 90) g dX11_joins_75 (by decide) (fun c_75 => ?_) (fun c_75 => ?_)
          · refine z_aload_n g dX11_joins_90 rfl ?_
            refine z_getR g fl_X11_177 hW.k0 (by decide) rfl (hW.ref (k := 66) (by decide)) dX11_joins_91 ?_
            refine z_iload_n g dX11_joins_94 rfl ?_
            refine z_ialdk g (hW.kA1 (k := 66) (by decide)) (by decide) (vp_in_nI (by rw [hW.lnI (k := 66) (by decide)]; show _ < 16; omega) (by rw [hW.lnI (k := 66) (by decide)]; decide)) dX11_joins_95 ?_
            rw [nI_clamp (by omega), W2_l]
            refine z_iastk g (hW.kA1 (k := 66) (by decide)) (by decide) (vp_in_nI (by rw [hW.lnI (k := 66) (by decide)]; show _ < 16; omega) (by rw [hW.lnI (k := 66) (by decide)]; decide)) dX11_joins_96 ?_
            rw [nI_clamp (by omega), W2_sl]
            exact z_vret g hrt (by decide) (by decide) dX11_joins_97 ⟨rfl, by rw [joS, if_neg (fun z => z.elim c_9 (fun y => y.elim (fun q => c_15 (by rw [q])) c_25)), if_neg (fun z => z.elim c_57 (fun y => y c_75))]⟩
          · refine z_aload_n g dX11_joins_78 rfl ?_
            refine z_getR g fl_X11_177 hW.k0 (by decide) rfl (hW.ref (k := 66) (by decide)) dX11_joins_79 ?_
            refine z_iload g dX11_joins_82 rfl ?_
            refine z_ialdk g (hW.kA1 (k := 66) (by decide)) (by decide) (vp_in_nI (by rw [hW.lnI (k := 66) (by decide)]; show _ < 16; omega) (by rw [hW.lnI (k := 66) (by decide)]; decide)) dX11_joins_84 ?_
            rw [nI_clamp (by omega), W2_l]
            refine z_iload_n g dX11_joins_85 rfl ?_
            refine z_iadd g dX11_joins_86 ?_
            refine z_goto (tgt := 96) g dX11_joins_87 (by decide) ?_
            refine z_iastk g (hW.kA1 (k := 66) (by decide)) (by decide) (vp_in_nI (by rw [hW.lnI (k := 66) (by decide)]; show _ < 16; omega) (by rw [hW.lnI (k := 66) (by decide)]; decide)) dX11_joins_96 ?_
            rw [nI_clamp (by omega), W2_sl]
            exact z_vret g hrt (by decide) (by decide) dX11_joins_97 ⟨rfl, by rw [joS, if_neg (fun z => z.elim c_9 (fun y => y.elim (fun q => c_15 (by rw [q])) c_25)), if_pos (Or.inr c_75)]⟩
      · exact z_vret g hrt (by decide) (by decide) dX11_joins_28 ⟨rfl, by rw [joS, if_pos (Or.inr (Or.inr c_25))]⟩
