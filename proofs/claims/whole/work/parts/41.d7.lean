/-! ===== the model: a name of a street refused; names, petitions told (printed by gen/mod_d7.py) ===== -/
set_option maxHeartbeats 4000000 in
set_option maxRecDepth 100000 in
theorem n_ref (E : Ev) {A : Nat → Nat} {m : Nat} {S : Ms} (M : Mm) (hM : RM A m S M) (hV : INV S) (f : Nat) (hf : f < cn S 2) (t : Int32) (w : Int64) (d : Int32) : CT E yX11_isRefused cX11_isRefused 10 (some .boolean) 4 0 0 [.ref m, .int (nI f), .int t, .long w, .int d] M ((fun r' M' => r' = some (.int (b2i (refA S f t w d))) ∧ SE A m M M')) noX := by
  refine CT.of rfl (Nat.le_of_ble_eq_true rfl) (fun X g hrt hno hE hN hR hI => ?_)
  subst hE
  have hO := hV.OkF
  obtain ⟨⟨v1, v2, -⟩, vF, -⟩ := hV
  have hf24 := v2.2
  refine z_aload_n g dX11_isRefused_0 rfl ?_
  refine z_iload_n g dX11_isRefused_1 rfl ?_
  refine z_iload g dX11_isRefused_2 rfl ?_
  refine z_aload_n g dX11_isRefused_4 rfl ?_
  refine z_getI g fl_X11_238 hM.k0 (by decide) rfl dX11_isRefused_5 ?_
  rw [hM.sc (k := 1) (by decide) (by decide)]
  refine z_callV g _ _ cv_X11_257 (n_whA _ M hM f (by omega) (vF f hf).2.2.2.2.1.1 (vF f hf).2.2.2.2.1.2 d (gi S 1)) hM.k0 (by decide) rfl (by rw [hR]; decide) (by rw [hR]; decide) (by rw [hR]; decide) (Nat.le_of_ble_eq_true rfl) rfl dX11_isRefused_8 (fun _ _ h => False.elim h) (fun r_8 M_8 h_8 => ?_)
  obtain ⟨rfl, rfl⟩ := h_8
  refine z_istore g dX11_isRefused_11 (by rw [hN]; decide) ?_
  by_cases hk5 : gA S 3 f = 5
  rotate_left
  · have hz : refA S f t w d = false := by rw [refA, decide_eq_false hk5]; rfl
    refine z_iconst (v := 0) g dX11_isRefused_13 (by decide) ?_
    refine z_istore g dX11_isRefused_14 (by rw [hN]; decide) ?_
    refine z_iconst (v := 0) g dX11_isRefused_16 (by decide) ?_
    refine z_istore g dX11_isRefused_17 (by rw [hN]; decide) ?_
    refine z_iload g dX11_isRefused_19 rfl ?_
    refine z_aload_n g dX11_isRefused_21 rfl ?_
    refine z_getI g fl_X11_186 hM.k0 (by decide) rfl dX11_isRefused_22 ?_
    rw [hM.sc (k := 2) (by decide) (by decide)]
    rw [v2.1]
    refine z_icmp_ge (tgt := 141) g dX11_isRefused_25 (by decide) (fun c_25 => ?_) (fun c_25 => ?_)
    · refine z_iload g dX11_isRefused_141 rfl ?_
      exact z_iret g hrt (by decide) (by decide) (by decide) dX11_isRefused_143 ⟨by rw [hz]; rfl, SE.rf⟩
    refine z_aload_n g dX11_isRefused_28 rfl ?_
    refine z_getR g fl_X11_7 hM.k0 (by decide) rfl (hM.ref (k := 3) (by decide)) dX11_isRefused_29 ?_
    refine z_iload_n g dX11_isRefused_32 rfl ?_
    refine z_ialdk g (hM.kA1 (k := 3) (by decide)) (by decide) (vp_in_nI (by rw [hM.lnI (k := 3) (by decide)]; show _ < 24; omega) (by rw [hM.lnI (k := 3) (by decide)]; decide)) dX11_isRefused_33 ?_
    rw [nI_clamp (by omega), hM.row (k := 3) (by decide) (by decide)]
    refine z_iconst (v := 5) g dX11_isRefused_34 (by decide) ?_
    refine z_icmp_ne (tgt := 141) g dX11_isRefused_35 (by decide) (fun c_35 => ?_) (fun c_35 => (by exact absurd c_35 hk5))
    refine z_iload g dX11_isRefused_141 rfl ?_
    exact z_iret g hrt (by decide) (by decide) (by decide) dX11_isRefused_143 ⟨by rw [hz]; rfl, SE.rf⟩
  by_cases hw1 : whA S f d (gi S 1) = -1
  · have hz : refA S f t w d = false := by rw [refA, decide_eq_true hw1]; simp
    refine z_iconst (v := 0) g dX11_isRefused_13 (by decide) ?_
    refine z_istore g dX11_isRefused_14 (by rw [hN]; decide) ?_
    refine z_iconst (v := 0) g dX11_isRefused_16 (by decide) ?_
    refine z_istore g dX11_isRefused_17 (by rw [hN]; decide) ?_
    refine z_iload g dX11_isRefused_19 rfl ?_
    refine z_aload_n g dX11_isRefused_21 rfl ?_
    refine z_getI g fl_X11_186 hM.k0 (by decide) rfl dX11_isRefused_22 ?_
    rw [hM.sc (k := 2) (by decide) (by decide)]
    rw [v2.1]
    refine z_icmp_ge (tgt := 141) g dX11_isRefused_25 (by decide) (fun c_25 => ?_) (fun c_25 => ?_)
    · refine z_iload g dX11_isRefused_141 rfl ?_
      exact z_iret g hrt (by decide) (by decide) (by decide) dX11_isRefused_143 ⟨by rw [hz]; rfl, SE.rf⟩
    refine z_aload_n g dX11_isRefused_28 rfl ?_
    refine z_getR g fl_X11_7 hM.k0 (by decide) rfl (hM.ref (k := 3) (by decide)) dX11_isRefused_29 ?_
    refine z_iload_n g dX11_isRefused_32 rfl ?_
    refine z_ialdk g (hM.kA1 (k := 3) (by decide)) (by decide) (vp_in_nI (by rw [hM.lnI (k := 3) (by decide)]; show _ < 24; omega) (by rw [hM.lnI (k := 3) (by decide)]; decide)) dX11_isRefused_33 ?_
    rw [nI_clamp (by omega), hM.row (k := 3) (by decide) (by decide)]
    refine z_iconst (v := 5) g dX11_isRefused_34 (by decide) ?_
    refine z_icmp_ne (tgt := 141) g dX11_isRefused_35 (by decide) (fun c_35 => (by exact absurd hk5 c_35)) (fun c_35 => ?_)
    refine z_iload g dX11_isRefused_38 rfl ?_
    refine z_iconst (v := (-1)) g dX11_isRefused_40 (by decide) ?_
    refine z_icmp_eq (tgt := 141) g dX11_isRefused_41 (by decide) (fun c_41 => ?_) (fun c_41 => (by exact absurd hw1 c_41))
    refine z_iload g dX11_isRefused_141 rfl ?_
    exact z_iret g hrt (by decide) (by decide) (by decide) dX11_isRefused_143 ⟨by rw [hz]; rfl, SE.rf⟩
  have loop : ∀ (k j : Nat) (M1 : Mm) (b : Bool) (hk : k + j = cn S 2) (se : SE A m M M1) (hb : refL S f t w d j = b), Z X M1 0 0 19 [(0, .ref m), (1, .int (nI f)), (2, .int t), (3, .long w), (5, .int d), (6, .int (whA S f d (gi S 1))), (7, .int (b2i b)), (8, .int (nI j))] [] := by
    intro k
    induction k using Nat.strongRecOn with
    | _ k ih =>
      intro j M1 b hk se hb
      have hM1 := hM.SE se
      cases b
      · show Z X M1 0 0 19 [(0, .ref m), (1, .int (nI f)), (2, .int t), (3, .long w), (5, .int d), (6, .int (whA S f d (gi S 1))), (7, .int 0), (8, .int (nI j))] []
        refine z_iload g dX11_isRefused_19 rfl ?_
        refine z_aload_n g dX11_isRefused_21 rfl ?_
        refine z_getI g fl_X11_186 hM1.k0 (by decide) rfl dX11_isRefused_22 ?_
        rw [hM1.sc (k := 2) (by decide) (by decide)]
        rw [v2.1]
        refine z_icmp_ge (tgt := 141) g dX11_isRefused_25 (by decide) (fun c_25 => ?_) (fun c_25 => ?_)
        · rw [nI_leI (by omega) (by omega)] at c_25
          have hz : refA S f t w d = false := by rw [refA, decide_eq_true hk5, decide_eq_false hw1, show cn S 2 = j by omega, hb]; rfl
          refine z_iload g dX11_isRefused_141 rfl ?_
          exact z_iret g hrt (by decide) (by decide) (by decide) dX11_isRefused_143 ⟨by rw [hz]; rfl, se⟩
        have h25 : j < cn S 2 := by rw [nI_leI (by omega) (by omega)] at c_25; omega
        refine z_aload_n g dX11_isRefused_28 rfl ?_
        refine z_getR g fl_X11_7 hM1.k0 (by decide) rfl (hM1.ref (k := 3) (by decide)) dX11_isRefused_29 ?_
        refine z_iload_n g dX11_isRefused_32 rfl ?_
        refine z_ialdk g (hM1.kA1 (k := 3) (by decide)) (by decide) (vp_in_nI (by rw [hM1.lnI (k := 3) (by decide)]; show _ < 24; omega) (by rw [hM1.lnI (k := 3) (by decide)]; decide)) dX11_isRefused_33 ?_
        rw [nI_clamp (by omega), hM1.row (k := 3) (by decide) (by decide)]
        refine z_iconst (v := 5) g dX11_isRefused_34 (by decide) ?_
        refine z_icmp_ne (tgt := 141) g dX11_isRefused_35 (by decide) (fun c_35 => (by exact absurd hk5 c_35)) (fun c_35 => ?_)
        refine z_iload g dX11_isRefused_38 rfl ?_
        refine z_iconst (v := (-1)) g dX11_isRefused_40 (by decide) ?_
        refine z_icmp_eq (tgt := 141) g dX11_isRefused_41 (by decide) (fun c_41 => (by exact absurd c_41 hw1)) (fun c_41 => ?_)
        refine z_iload g dX11_isRefused_44 rfl ?_
        refine z_iload_n g dX11_isRefused_46 rfl ?_
        refine z_icmp_eq (tgt := 97) g dX11_isRefused_47 (by decide) (fun c_47 => ?_) (fun c_47 => ?_)
        · refine z_iconst (v := 0) g dX11_isRefused_97 (by decide) ?_
          refine z_istore g dX11_isRefused_98 (by rw [hN]; decide) ?_
          refine z_iload g dX11_isRefused_100 rfl ?_
          refine z_if_ne (tgt := 128) g dX11_isRefused_102 (by decide) (fun c_102 => absurd c_102 (by decide)) (fun _ => ?_)
          refine z_iload g dX11_isRefused_105 rfl ?_
          refine z_if_eq (tgt := 132) g dX11_isRefused_107 (by decide) (fun _ => ?_) (fun c_107 => absurd c_107 (by decide))
          refine z_iconst (v := 0) g dX11_isRefused_132 (by decide) ?_
          refine z_istore g dX11_isRefused_133 (by rw [hN]; decide) ?_
          refine z_iinc1 g dX11_isRefused_135 rfl (by rw [hN]; decide) ?_
          refine z_goto (tgt := 19) g dX11_isRefused_138 (by decide) ?_
          rw [nI_s]
          have hstep : refL S f t w d (j + 1) = false := by
            rw [refL, hb]
            simp [eq_true c_47]
          exact z_to (ih (k - 1) (by omega) (j + 1) _ false (by omega) se hstep) ⟨rfl, rfl, rfl, rfl, rfl, rfl, rfl, rfl, trivial⟩
        · refine z_aload_n g dX11_isRefused_50 rfl ?_
          refine z_getR g fl_X11_7 hM1.k0 (by decide) rfl (hM1.ref (k := 3) (by decide)) dX11_isRefused_51 ?_
          refine z_iload g dX11_isRefused_54 rfl ?_
          refine z_ialdk g (hM1.kA1 (k := 3) (by decide)) (by decide) (vp_in_nI (by rw [hM1.lnI (k := 3) (by decide)]; show _ < 24; omega) (by rw [hM1.lnI (k := 3) (by decide)]; decide)) dX11_isRefused_56 ?_
          rw [nI_clamp (by omega), hM1.row (k := 3) (by decide) (by decide)]
          refine z_iconst (v := 5) g dX11_isRefused_57 (by decide) ?_
          refine z_icmp_ne (tgt := 97) g dX11_isRefused_58 (by decide) (fun c_58 => ?_) (fun c_58 => ?_)
          · refine z_iconst (v := 0) g dX11_isRefused_97 (by decide) ?_
            refine z_istore g dX11_isRefused_98 (by rw [hN]; decide) ?_
            refine z_iload g dX11_isRefused_100 rfl ?_
            refine z_if_ne (tgt := 128) g dX11_isRefused_102 (by decide) (fun c_102 => absurd c_102 (by decide)) (fun _ => ?_)
            refine z_iload g dX11_isRefused_105 rfl ?_
            refine z_if_eq (tgt := 132) g dX11_isRefused_107 (by decide) (fun _ => ?_) (fun c_107 => absurd c_107 (by decide))
            refine z_iconst (v := 0) g dX11_isRefused_132 (by decide) ?_
            refine z_istore g dX11_isRefused_133 (by rw [hN]; decide) ?_
            refine z_iinc1 g dX11_isRefused_135 rfl (by rw [hN]; decide) ?_
            refine z_goto (tgt := 19) g dX11_isRefused_138 (by decide) ?_
            rw [nI_s]
            have hstep : refL S f t w d (j + 1) = false := by
              rw [refL, hb]
              simp [eq_false c_47, eq_false c_58]
            exact z_to (ih (k - 1) (by omega) (j + 1) _ false (by omega) se hstep) ⟨rfl, rfl, rfl, rfl, rfl, rfl, rfl, rfl, trivial⟩
          · refine z_aload_n g dX11_isRefused_61 rfl ?_
            refine z_iload g dX11_isRefused_62 rfl ?_
            refine z_iload g dX11_isRefused_64 rfl ?_
            refine z_aload_n g dX11_isRefused_66 rfl ?_
            refine z_getI g fl_X11_238 hM1.k0 (by decide) rfl dX11_isRefused_67 ?_
            rw [hM1.sc (k := 1) (by decide) (by decide)]
            refine z_callV g _ _ cv_X11_254 (n_thA _ M1 hM1 j (by omega) d (gi S 1)) hM1.k0 (by decide) rfl (by rw [hR]; decide) (by rw [hR]; decide) (by rw [hR]; decide) (Nat.le_of_ble_eq_true rfl) rfl dX11_isRefused_70 (fun _ _ h => False.elim h) (fun r_70 M_70 h_70 => ?_)
            obtain ⟨rfl, rfl⟩ := h_70
            refine z_if_eq (tgt := 97) g dX11_isRefused_73 (by decide) (fun c_73 => ?_) (fun c_73 => ?_)
            · first | rw [b2i_0] at c_73 | rw [b2i_n0] at c_73 | skip
              refine z_iconst (v := 0) g dX11_isRefused_97 (by decide) ?_
              refine z_istore g dX11_isRefused_98 (by rw [hN]; decide) ?_
              refine z_iload g dX11_isRefused_100 rfl ?_
              refine z_if_ne (tgt := 128) g dX11_isRefused_102 (by decide) (fun c_102 => absurd c_102 (by decide)) (fun _ => ?_)
              refine z_iload g dX11_isRefused_105 rfl ?_
              refine z_if_eq (tgt := 132) g dX11_isRefused_107 (by decide) (fun _ => ?_) (fun c_107 => absurd c_107 (by decide))
              refine z_iconst (v := 0) g dX11_isRefused_132 (by decide) ?_
              refine z_istore g dX11_isRefused_133 (by rw [hN]; decide) ?_
              refine z_iinc1 g dX11_isRefused_135 rfl (by rw [hN]; decide) ?_
              refine z_goto (tgt := 19) g dX11_isRefused_138 (by decide) ?_
              rw [nI_s]
              have hstep : refL S f t w d (j + 1) = false := by
                rw [refL, hb]
                simp [eq_false c_47, eq_true c_58, c_73]
              exact z_to (ih (k - 1) (by omega) (j + 1) _ false (by omega) se hstep) ⟨rfl, rfl, rfl, rfl, rfl, rfl, rfl, rfl, trivial⟩
            · first | rw [b2i_0] at c_73 | rw [b2i_n0] at c_73 | skip
              refine z_aload_n g dX11_isRefused_76 rfl ?_
              refine z_iload g dX11_isRefused_77 rfl ?_
              refine z_iload g dX11_isRefused_79 rfl ?_
              refine z_aload_n g dX11_isRefused_81 rfl ?_
              refine z_getI g fl_X11_238 hM1.k0 (by decide) rfl dX11_isRefused_82 ?_
              rw [hM1.sc (k := 1) (by decide) (by decide)]
              refine z_callV g _ _ cv_X11_257 (n_whA _ M1 hM1 j (by omega) (vF j h25).2.2.2.2.1.1 (vF j h25).2.2.2.2.1.2 d (gi S 1)) hM1.k0 (by decide) rfl (by rw [hR]; decide) (by rw [hR]; decide) (by rw [hR]; decide) (Nat.le_of_ble_eq_true rfl) rfl dX11_isRefused_85 (fun _ _ h => False.elim h) (fun r_85 M_85 h_85 => ?_)
              obtain ⟨rfl, rfl⟩ := h_85
              refine z_iload g dX11_isRefused_88 rfl ?_
              refine z_icmp_ne (tgt := 97) g dX11_isRefused_90 (by decide) (fun c_90 => ?_) (fun c_90 => ?_)
              · refine z_iconst (v := 0) g dX11_isRefused_97 (by decide) ?_
                refine z_istore g dX11_isRefused_98 (by rw [hN]; decide) ?_
                refine z_iload g dX11_isRefused_100 rfl ?_
                refine z_if_ne (tgt := 128) g dX11_isRefused_102 (by decide) (fun c_102 => absurd c_102 (by decide)) (fun _ => ?_)
                refine z_iload g dX11_isRefused_105 rfl ?_
                refine z_if_eq (tgt := 132) g dX11_isRefused_107 (by decide) (fun _ => ?_) (fun c_107 => absurd c_107 (by decide))
                refine z_iconst (v := 0) g dX11_isRefused_132 (by decide) ?_
                refine z_istore g dX11_isRefused_133 (by rw [hN]; decide) ?_
                refine z_iinc1 g dX11_isRefused_135 rfl (by rw [hN]; decide) ?_
                refine z_goto (tgt := 19) g dX11_isRefused_138 (by decide) ?_
                rw [nI_s]
                have hstep : refL S f t w d (j + 1) = false := by
                  rw [refL, hb]
                  simp [eq_false c_47, eq_true c_58, c_73, eq_false c_90]
                exact z_to (ih (k - 1) (by omega) (j + 1) _ false (by omega) se hstep) ⟨rfl, rfl, rfl, rfl, rfl, rfl, rfl, rfl, trivial⟩
              · refine z_iconst (v := 1) g dX11_isRefused_93 (by decide) ?_
                refine z_goto (tgt := 98) g dX11_isRefused_94 (by decide) ?_
                refine z_istore g dX11_isRefused_98 (by rw [hN]; decide) ?_
                refine z_iload g dX11_isRefused_100 rfl ?_
                refine z_if_ne (tgt := 128) g dX11_isRefused_102 (by decide) (fun c_102 => absurd c_102 (by decide)) (fun _ => ?_)
                refine z_iload g dX11_isRefused_105 rfl ?_
                refine z_if_eq (tgt := 132) g dX11_isRefused_107 (by decide) (fun c_107 => absurd c_107 (by decide)) (fun _ => ?_)
                refine z_aload_n g dX11_isRefused_110 rfl ?_
                refine z_iload g dX11_isRefused_111 rfl ?_
                refine z_iload_n g dX11_isRefused_113 rfl ?_
                refine z_iload g dX11_isRefused_114 rfl ?_
                refine z_aload_n g dX11_isRefused_116 rfl ?_
                refine z_getI g fl_X11_238 hM1.k0 (by decide) rfl dX11_isRefused_117 ?_
                rw [hM1.sc (k := 1) (by decide) (by decide)]
                refine z_callV g _ _ cv_X11_260 (n_frm _ M1 hM1 hO j t d (gi S 1)) hM1.k0 (by decide) rfl (by rw [hR]; decide) (by rw [hR]; decide) (by rw [hR]; decide) (Nat.le_of_ble_eq_true rfl) rfl dX11_isRefused_120 (fun _ _ h => False.elim h) (fun r_120 M_120 h_120 => ?_)
                obtain ⟨rfl, se2⟩ := h_120
                have hM2 := hM1.SE se2
                refine z_lload_n g dX11_isRefused_123 rfl ?_
                refine z_lcmp g dX11_isRefused_124 ?_
                refine z_if_ne (tgt := 132) g dX11_isRefused_125 (by decide) (fun c_125 => ?_) (fun c_125 => ?_)
                · refine z_iconst (v := 0) g dX11_isRefused_132 (by decide) ?_
                  refine z_istore g dX11_isRefused_133 (by rw [hN]; decide) ?_
                  refine z_iinc1 g dX11_isRefused_135 rfl (by rw [hN]; decide) ?_
                  refine z_goto (tgt := 19) g dX11_isRefused_138 (by decide) ?_
                  rw [nI_s]
                  have hcc := eq_false (fun z => c_125 ((lg_cmp_eq _ _).mpr z))
                  have hstep : refL S f t w d (j + 1) = false := by
                    rw [refL, hb]
                    simp [eq_false c_47, eq_true c_58, c_73, eq_true c_90, hcc]
                  exact z_to (ih (k - 1) (by omega) (j + 1) _ false (by omega) (se.tr se2) hstep) ⟨rfl, rfl, rfl, rfl, rfl, rfl, rfl, rfl, trivial⟩
                · refine z_iconst (v := 1) g dX11_isRefused_128 (by decide) ?_
                  refine z_goto (tgt := 133) g dX11_isRefused_129 (by decide) ?_
                  refine z_istore g dX11_isRefused_133 (by rw [hN]; decide) ?_
                  refine z_iinc1 g dX11_isRefused_135 rfl (by rw [hN]; decide) ?_
                  refine z_goto (tgt := 19) g dX11_isRefused_138 (by decide) ?_
                  rw [nI_s]
                  have hcc := eq_true ((lg_cmp_eq _ _).mp c_125)
                  have hstep : refL S f t w d (j + 1) = true := by
                    rw [refL, hb]
                    simp [eq_false c_47, eq_true c_58, c_73, eq_true c_90, hcc]
                  exact z_to (ih (k - 1) (by omega) (j + 1) _ true (by omega) (se.tr se2) hstep) ⟨rfl, rfl, rfl, rfl, rfl, rfl, rfl, rfl, trivial⟩
      · show Z X M1 0 0 19 [(0, .ref m), (1, .int (nI f)), (2, .int t), (3, .long w), (5, .int d), (6, .int (whA S f d (gi S 1))), (7, .int 1), (8, .int (nI j))] []
        refine z_iload g dX11_isRefused_19 rfl ?_
        refine z_aload_n g dX11_isRefused_21 rfl ?_
        refine z_getI g fl_X11_186 hM1.k0 (by decide) rfl dX11_isRefused_22 ?_
        rw [hM1.sc (k := 2) (by decide) (by decide)]
        rw [v2.1]
        refine z_icmp_ge (tgt := 141) g dX11_isRefused_25 (by decide) (fun c_25 => ?_) (fun c_25 => ?_)
        · rw [nI_leI (by omega) (by omega)] at c_25
          have hz : refA S f t w d = true := by rw [refA, decide_eq_true hk5, decide_eq_false hw1, show cn S 2 = j by omega, hb]; rfl
          refine z_iload g dX11_isRefused_141 rfl ?_
          exact z_iret g hrt (by decide) (by decide) (by decide) dX11_isRefused_143 ⟨by rw [hz]; rfl, se⟩
        have h25 : j < cn S 2 := by rw [nI_leI (by omega) (by omega)] at c_25; omega
        refine z_aload_n g dX11_isRefused_28 rfl ?_
        refine z_getR g fl_X11_7 hM1.k0 (by decide) rfl (hM1.ref (k := 3) (by decide)) dX11_isRefused_29 ?_
        refine z_iload_n g dX11_isRefused_32 rfl ?_
        refine z_ialdk g (hM1.kA1 (k := 3) (by decide)) (by decide) (vp_in_nI (by rw [hM1.lnI (k := 3) (by decide)]; show _ < 24; omega) (by rw [hM1.lnI (k := 3) (by decide)]; decide)) dX11_isRefused_33 ?_
        rw [nI_clamp (by omega), hM1.row (k := 3) (by decide) (by decide)]
        refine z_iconst (v := 5) g dX11_isRefused_34 (by decide) ?_
        refine z_icmp_ne (tgt := 141) g dX11_isRefused_35 (by decide) (fun c_35 => (by exact absurd hk5 c_35)) (fun c_35 => ?_)
        refine z_iload g dX11_isRefused_38 rfl ?_
        refine z_iconst (v := (-1)) g dX11_isRefused_40 (by decide) ?_
        refine z_icmp_eq (tgt := 141) g dX11_isRefused_41 (by decide) (fun c_41 => (by exact absurd c_41 hw1)) (fun c_41 => ?_)
        refine z_iload g dX11_isRefused_44 rfl ?_
        refine z_iload_n g dX11_isRefused_46 rfl ?_
        refine z_icmp_eq (tgt := 97) g dX11_isRefused_47 (by decide) (fun c_47 => ?_) (fun c_47 => ?_)
        · refine z_iconst (v := 0) g dX11_isRefused_97 (by decide) ?_
          refine z_istore g dX11_isRefused_98 (by rw [hN]; decide) ?_
          refine z_iload g dX11_isRefused_100 rfl ?_
          refine z_if_ne (tgt := 128) g dX11_isRefused_102 (by decide) (fun _ => ?_) (fun c_102 => absurd c_102 (by decide))
          refine z_iconst (v := 1) g dX11_isRefused_128 (by decide) ?_
          refine z_goto (tgt := 133) g dX11_isRefused_129 (by decide) ?_
          refine z_istore g dX11_isRefused_133 (by rw [hN]; decide) ?_
          refine z_iinc1 g dX11_isRefused_135 rfl (by rw [hN]; decide) ?_
          refine z_goto (tgt := 19) g dX11_isRefused_138 (by decide) ?_
          rw [nI_s]
          have hstep : refL S f t w d (j + 1) = true := by
            rw [refL, hb]
            simp [eq_true c_47]
          exact z_to (ih (k - 1) (by omega) (j + 1) _ true (by omega) se hstep) ⟨rfl, rfl, rfl, rfl, rfl, rfl, rfl, rfl, trivial⟩
        · refine z_aload_n g dX11_isRefused_50 rfl ?_
          refine z_getR g fl_X11_7 hM1.k0 (by decide) rfl (hM1.ref (k := 3) (by decide)) dX11_isRefused_51 ?_
          refine z_iload g dX11_isRefused_54 rfl ?_
          refine z_ialdk g (hM1.kA1 (k := 3) (by decide)) (by decide) (vp_in_nI (by rw [hM1.lnI (k := 3) (by decide)]; show _ < 24; omega) (by rw [hM1.lnI (k := 3) (by decide)]; decide)) dX11_isRefused_56 ?_
          rw [nI_clamp (by omega), hM1.row (k := 3) (by decide) (by decide)]
          refine z_iconst (v := 5) g dX11_isRefused_57 (by decide) ?_
          refine z_icmp_ne (tgt := 97) g dX11_isRefused_58 (by decide) (fun c_58 => ?_) (fun c_58 => ?_)
          · refine z_iconst (v := 0) g dX11_isRefused_97 (by decide) ?_
            refine z_istore g dX11_isRefused_98 (by rw [hN]; decide) ?_
            refine z_iload g dX11_isRefused_100 rfl ?_
            refine z_if_ne (tgt := 128) g dX11_isRefused_102 (by decide) (fun _ => ?_) (fun c_102 => absurd c_102 (by decide))
            refine z_iconst (v := 1) g dX11_isRefused_128 (by decide) ?_
            refine z_goto (tgt := 133) g dX11_isRefused_129 (by decide) ?_
            refine z_istore g dX11_isRefused_133 (by rw [hN]; decide) ?_
            refine z_iinc1 g dX11_isRefused_135 rfl (by rw [hN]; decide) ?_
            refine z_goto (tgt := 19) g dX11_isRefused_138 (by decide) ?_
            rw [nI_s]
            have hstep : refL S f t w d (j + 1) = true := by
              rw [refL, hb]
              simp [eq_false c_47, eq_false c_58]
            exact z_to (ih (k - 1) (by omega) (j + 1) _ true (by omega) se hstep) ⟨rfl, rfl, rfl, rfl, rfl, rfl, rfl, rfl, trivial⟩
          · refine z_aload_n g dX11_isRefused_61 rfl ?_
            refine z_iload g dX11_isRefused_62 rfl ?_
            refine z_iload g dX11_isRefused_64 rfl ?_
            refine z_aload_n g dX11_isRefused_66 rfl ?_
            refine z_getI g fl_X11_238 hM1.k0 (by decide) rfl dX11_isRefused_67 ?_
            rw [hM1.sc (k := 1) (by decide) (by decide)]
            refine z_callV g _ _ cv_X11_254 (n_thA _ M1 hM1 j (by omega) d (gi S 1)) hM1.k0 (by decide) rfl (by rw [hR]; decide) (by rw [hR]; decide) (by rw [hR]; decide) (Nat.le_of_ble_eq_true rfl) rfl dX11_isRefused_70 (fun _ _ h => False.elim h) (fun r_70 M_70 h_70 => ?_)
            obtain ⟨rfl, rfl⟩ := h_70
            refine z_if_eq (tgt := 97) g dX11_isRefused_73 (by decide) (fun c_73 => ?_) (fun c_73 => ?_)
            · first | rw [b2i_0] at c_73 | rw [b2i_n0] at c_73 | skip
              refine z_iconst (v := 0) g dX11_isRefused_97 (by decide) ?_
              refine z_istore g dX11_isRefused_98 (by rw [hN]; decide) ?_
              refine z_iload g dX11_isRefused_100 rfl ?_
              refine z_if_ne (tgt := 128) g dX11_isRefused_102 (by decide) (fun _ => ?_) (fun c_102 => absurd c_102 (by decide))
              refine z_iconst (v := 1) g dX11_isRefused_128 (by decide) ?_
              refine z_goto (tgt := 133) g dX11_isRefused_129 (by decide) ?_
              refine z_istore g dX11_isRefused_133 (by rw [hN]; decide) ?_
              refine z_iinc1 g dX11_isRefused_135 rfl (by rw [hN]; decide) ?_
              refine z_goto (tgt := 19) g dX11_isRefused_138 (by decide) ?_
              rw [nI_s]
              have hstep : refL S f t w d (j + 1) = true := by
                rw [refL, hb]
                simp [eq_false c_47, eq_true c_58, c_73]
              exact z_to (ih (k - 1) (by omega) (j + 1) _ true (by omega) se hstep) ⟨rfl, rfl, rfl, rfl, rfl, rfl, rfl, rfl, trivial⟩
            · first | rw [b2i_0] at c_73 | rw [b2i_n0] at c_73 | skip
              refine z_aload_n g dX11_isRefused_76 rfl ?_
              refine z_iload g dX11_isRefused_77 rfl ?_
              refine z_iload g dX11_isRefused_79 rfl ?_
              refine z_aload_n g dX11_isRefused_81 rfl ?_
              refine z_getI g fl_X11_238 hM1.k0 (by decide) rfl dX11_isRefused_82 ?_
              rw [hM1.sc (k := 1) (by decide) (by decide)]
              refine z_callV g _ _ cv_X11_257 (n_whA _ M1 hM1 j (by omega) (vF j h25).2.2.2.2.1.1 (vF j h25).2.2.2.2.1.2 d (gi S 1)) hM1.k0 (by decide) rfl (by rw [hR]; decide) (by rw [hR]; decide) (by rw [hR]; decide) (Nat.le_of_ble_eq_true rfl) rfl dX11_isRefused_85 (fun _ _ h => False.elim h) (fun r_85 M_85 h_85 => ?_)
              obtain ⟨rfl, rfl⟩ := h_85
              refine z_iload g dX11_isRefused_88 rfl ?_
              refine z_icmp_ne (tgt := 97) g dX11_isRefused_90 (by decide) (fun c_90 => ?_) (fun c_90 => ?_)
              · refine z_iconst (v := 0) g dX11_isRefused_97 (by decide) ?_
                refine z_istore g dX11_isRefused_98 (by rw [hN]; decide) ?_
                refine z_iload g dX11_isRefused_100 rfl ?_
                refine z_if_ne (tgt := 128) g dX11_isRefused_102 (by decide) (fun _ => ?_) (fun c_102 => absurd c_102 (by decide))
                refine z_iconst (v := 1) g dX11_isRefused_128 (by decide) ?_
                refine z_goto (tgt := 133) g dX11_isRefused_129 (by decide) ?_
                refine z_istore g dX11_isRefused_133 (by rw [hN]; decide) ?_
                refine z_iinc1 g dX11_isRefused_135 rfl (by rw [hN]; decide) ?_
                refine z_goto (tgt := 19) g dX11_isRefused_138 (by decide) ?_
                rw [nI_s]
                have hstep : refL S f t w d (j + 1) = true := by
                  rw [refL, hb]
                  simp [eq_false c_47, eq_true c_58, c_73, eq_false c_90]
                exact z_to (ih (k - 1) (by omega) (j + 1) _ true (by omega) se hstep) ⟨rfl, rfl, rfl, rfl, rfl, rfl, rfl, rfl, trivial⟩
              · refine z_iconst (v := 1) g dX11_isRefused_93 (by decide) ?_
                refine z_goto (tgt := 98) g dX11_isRefused_94 (by decide) ?_
                refine z_istore g dX11_isRefused_98 (by rw [hN]; decide) ?_
                refine z_iload g dX11_isRefused_100 rfl ?_
                refine z_if_ne (tgt := 128) g dX11_isRefused_102 (by decide) (fun _ => ?_) (fun c_102 => absurd c_102 (by decide))
                refine z_iconst (v := 1) g dX11_isRefused_128 (by decide) ?_
                refine z_goto (tgt := 133) g dX11_isRefused_129 (by decide) ?_
                refine z_istore g dX11_isRefused_133 (by rw [hN]; decide) ?_
                refine z_iinc1 g dX11_isRefused_135 rfl (by rw [hN]; decide) ?_
                refine z_goto (tgt := 19) g dX11_isRefused_138 (by decide) ?_
                rw [nI_s]
                have hstep : refL S f t w d (j + 1) = true := by
                  rw [refL, hb]
                  simp [eq_false c_47, eq_true c_58, c_73, eq_true c_90]
                exact z_to (ih (k - 1) (by omega) (j + 1) _ true (by omega) se hstep) ⟨rfl, rfl, rfl, rfl, rfl, rfl, rfl, rfl, trivial⟩
  refine z_iconst (v := 0) g dX11_isRefused_13 (by decide) ?_
  refine z_istore g dX11_isRefused_14 (by rw [hN]; decide) ?_
  refine z_iconst (v := 0) g dX11_isRefused_16 (by decide) ?_
  refine z_istore g dX11_isRefused_17 (by rw [hN]; decide) ?_
  exact z_to (loop _ 0 M false rfl SE.rf rfl) ⟨rfl, rfl, rfl, rfl, rfl, rfl, rfl, rfl, trivial⟩
