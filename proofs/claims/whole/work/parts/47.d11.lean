/-! ===== the model: shown, seen, written and read back (printed by gen/mod_d11.py) ===== -/
set_option maxHeartbeats 4000000 in
set_option maxRecDepth 100000 in
theorem n_seen (E : Ev) {A : Nat → Nat} {m : Nat} {S : Ms} (M : Mm) (hM : RM A m S M) (hO : OkF S) (f : Nat) (hf : f < 24) (t : Int32) : CT E yX11_seen cX11_seen 8 (some .long) 4 0 0 [.ref m, .int (nI f), .int t] M ((fun r' M' => r' = some (.long (sneA S f t)) ∧ SE A m M M')) noX := by
  refine CT.of rfl (Nat.le_of_ble_eq_true rfl) (fun X g hrt hno hE hN hR hI => ?_)
  subst hE
  refine z_aload_n g dX11_seen_0 rfl ?_
  refine z_getR g fl_X11_134 hM.k0 (by decide) rfl (hM.ref (k := 48) (by decide)) dX11_seen_1 ?_
  refine z_iload_n g dX11_seen_4 rfl ?_
  refine z_ialdk g (hM.kA1 (k := 48) (by decide)) (by decide) (vp_in_nI (by rw [hM.lnI (k := 48) (by decide)]; show _ < 24; omega) (by rw [hM.lnI (k := 48) (by decide)]; decide)) dX11_seen_5 ?_
  rw [nI_clamp (by omega), hM.row (k := 48) (by decide) (by decide)]
  refine z_istore_n g dX11_seen_6 (by rw [hN]; decide) ?_
  refine z_aload_n g dX11_seen_7 rfl ?_
  refine z_getR g fl_X11_137 hM.k0 (by decide) rfl (hM.ref (k := 49) (by decide)) dX11_seen_8 ?_
  refine z_iload_n g dX11_seen_11 rfl ?_
  refine z_ialdk g (hM.kA1 (k := 49) (by decide)) (by decide) (vp_in_nI (by rw [hM.lnI (k := 49) (by decide)]; show _ < 24; omega) (by rw [hM.lnI (k := 49) (by decide)]; decide)) dX11_seen_12 ?_
  rw [nI_clamp (by omega), hM.row (k := 49) (by decide) (by decide)]
  refine z_istore g dX11_seen_13 (by rw [hN]; decide) ?_
  refine z_iload_n g dX11_seen_15 rfl ?_
  refine z_iload g dX11_seen_16 rfl ?_
  refine z_icmp_eq (tgt := 66) g dX11_seen_18 (by decide) (fun c_18 => ?_) (fun c_18 => ?_)
  · have heq : gA S 48 f = gA S 49 f := c_18
    have loop : ∀ (k j : Nat) (M1 : Mm) (hk : k + j = 4) (se : SE A m M M1), Z X M1 0 0 85 [(0, .ref m), (1, .int (nI f)), (5, .long (snL S f (formA S (nI f) t (gi S 1) (gi S 1)) j)), (7, .int (nI j))] [] := by
      intro k
      induction k using Nat.strongRecOn with
      | _ k ih =>
        intro j M1 hk se
        have hM1 := hM.SE se
        refine z_iload g dX11_seen_85 rfl ?_
        refine z_iconst (v := 4) g dX11_seen_87 (by decide) ?_
        refine z_icmp_ge (tgt := 121) g dX11_seen_88 (by decide) (fun c_88 => ?_) (fun c_88 => ?_)
        · rw [show (4 : Int32) = nI 4 from rfl, nI_leI (by omega) (by omega)] at c_88
          refine z_lload g dX11_seen_121 rfl ?_
          exact z_lret g hrt (by decide) (by decide) dX11_seen_123 ⟨by rw [sneA, if_pos heq, show j = 4 by omega], se⟩
        have h88 : j < 4 := by rw [show (4 : Int32) = nI 4 from rfl, nI_leI (by omega) (by omega)] at c_88; omega
        refine z_lload g dX11_seen_91 rfl ?_
        refine z_lconst (v := 0) g dX11_seen_93 (by decide) ?_
        refine z_lcmp g dX11_seen_94 ?_
        refine z_if_ne (tgt := 121) g dX11_seen_95 (by decide) (fun c_95 => ?_) (fun c_95 => ?_)
        · have hnz : ¬ snL S f (formA S (nI f) t (gi S 1) (gi S 1)) j = 0 := fun z => c_95 ((lg_cmp_eq _ _).mpr z)
          refine z_lload g dX11_seen_121 rfl ?_
          exact z_lret g hrt (by decide) (by decide) dX11_seen_123 ⟨by rw [sneA, if_pos heq, snL_stay hnz 4 (by omega)], se⟩
        have hz : snL S f (formA S (nI f) t (gi S 1) (gi S 1)) j = 0 := (lg_cmp_eq _ _).mp c_95
        refine z_aload_n g dX11_seen_98 rfl ?_
        refine z_iload_n g dX11_seen_99 rfl ?_
        refine z_iload g dX11_seen_100 rfl ?_
        refine z_aload_n g dX11_seen_102 rfl ?_
        refine z_getI g fl_X11_238 hM1.k0 (by decide) rfl dX11_seen_103 ?_
        rw [hM1.sc (k := 1) (by decide) (by decide)]
        refine z_aload_n g dX11_seen_106 rfl ?_
        refine z_getI g fl_X11_238 hM1.k0 (by decide) rfl dX11_seen_107 ?_
        rw [hM1.sc (k := 1) (by decide) (by decide)]
        refine z_callV g _ _ cv_X11_260 (n_frm _ M1 hM1 hO f (nI j) (gi S 1) (gi S 1)) hM1.k0 (by decide) rfl (by rw [hR]; decide) (by rw [hR]; decide) (by rw [hR]; decide) (Nat.le_of_ble_eq_true rfl) rfl dX11_seen_110 (fun _ _ h => False.elim h) (fun r_110 M_110 h_110 => ?_)
        obtain ⟨rfl, se2⟩ := h_110
        refine z_lstore g dX11_seen_113 (by rw [hN]; decide) ?_
        refine z_iinc1 g dX11_seen_115 rfl (by rw [hN]; decide) ?_
        refine z_goto (tgt := 85) g dX11_seen_118 (by decide) ?_
        rw [nI_s]
        have hs := ih (k - 1) (by omega) (j + 1) M_110 (by omega) (se.tr se2)
        rw [show snL S f (formA S (nI f) t (gi S 1) (gi S 1)) (j + 1) = formA S (nI f) (nI j) (gi S 1) (gi S 1) from if_pos hz] at hs
        exact z_to hs ⟨rfl, rfl, rfl, rfl, trivial⟩
    refine z_aload_n g dX11_seen_66 rfl ?_
    refine z_iload_n g dX11_seen_67 rfl ?_
    refine z_iload_n g dX11_seen_68 rfl ?_
    refine z_aload_n g dX11_seen_69 rfl ?_
    refine z_getI g fl_X11_238 hM.k0 (by decide) rfl dX11_seen_70 ?_
    rw [hM.sc (k := 1) (by decide) (by decide)]
    refine z_aload_n g dX11_seen_73 rfl ?_
    refine z_getI g fl_X11_238 hM.k0 (by decide) rfl dX11_seen_74 ?_
    rw [hM.sc (k := 1) (by decide) (by decide)]
    refine z_callV g _ _ cv_X11_260 (n_frm _ M hM hO f _ _ _) hM.k0 (by decide) rfl (by rw [hR]; decide) (by rw [hR]; decide) (by rw [hR]; decide) (Nat.le_of_ble_eq_true rfl) rfl dX11_seen_77 (fun _ _ h => False.elim h) (fun r_77 M_77 h_77 => ?_)
    obtain ⟨rfl, se⟩ := h_77
    refine z_lstore g dX11_seen_80 (by rw [hN]; decide) ?_
    refine z_iconst (v := 0) g dX11_seen_82 (by decide) ?_
    refine z_istore g dX11_seen_83 (by rw [hN]; decide) ?_
    exact z_to (loop 4 0 M_77 rfl se) ⟨rfl, rfl, rfl, rfl, trivial⟩
  · refine z_iload_n g dX11_seen_21 rfl ?_
    refine z_iload g dX11_seen_22 rfl ?_
    refine z_icmp_ge (tgt := 31) g dX11_seen_24 (by decide) (fun c_24 => ?_) (fun c_24 => ?_)
    · refine z_iload g dX11_seen_31 rfl ?_
      refine z_istore g dX11_seen_33 (by rw [hN]; decide) ?_
      refine z_aload_n g dX11_seen_35 rfl ?_
      refine z_iload_n g dX11_seen_36 rfl ?_
      refine z_iload_n g dX11_seen_37 rfl ?_
      refine z_iload_n g dX11_seen_38 rfl ?_
      refine z_icmp_eq (tgt := 48) g dX11_seen_39 (by decide) (fun c_39 => ?_) (fun c_39 => ?_)
      · refine z_iload_n g dX11_seen_48 rfl ?_
        refine z_goto (tgt := 54) g dX11_seen_49 (by decide) ?_
        refine z_aload_n g dX11_seen_54 rfl ?_
        refine z_getI g fl_X11_238 hM.k0 (by decide) rfl dX11_seen_55 ?_
        rw [hM.sc (k := 1) (by decide) (by decide)]
        refine z_aload_n g dX11_seen_58 rfl ?_
        refine z_getI g fl_X11_238 hM.k0 (by decide) rfl dX11_seen_59 ?_
        rw [hM.sc (k := 1) (by decide) (by decide)]
        refine z_callV g _ _ cv_X11_260 (n_frm _ M hM hO f _ _ _) hM.k0 (by decide) rfl (by rw [hR]; decide) (by rw [hR]; decide) (by rw [hR]; decide) (Nat.le_of_ble_eq_true rfl) rfl dX11_seen_62 (fun _ _ h => False.elim h) (fun r_62 M_62 h_62 => ?_)
        obtain ⟨rfl, se⟩ := h_62
        exact z_lret g hrt (by decide) (by decide) dX11_seen_65 ⟨by simp [sneA, eq_false c_18, eq_true c_24, eq_true c_39], se⟩
      · refine z_iload_n g dX11_seen_42 rfl ?_
        refine z_iload g dX11_seen_43 rfl ?_
        refine z_icmp_ne (tgt := 52) g dX11_seen_45 (by decide) (fun c_45 => ?_) (fun c_45 => ?_)
        · refine z_iload g dX11_seen_52 rfl ?_
          refine z_aload_n g dX11_seen_54 rfl ?_
          refine z_getI g fl_X11_238 hM.k0 (by decide) rfl dX11_seen_55 ?_
          rw [hM.sc (k := 1) (by decide) (by decide)]
          refine z_aload_n g dX11_seen_58 rfl ?_
          refine z_getI g fl_X11_238 hM.k0 (by decide) rfl dX11_seen_59 ?_
          rw [hM.sc (k := 1) (by decide) (by decide)]
          refine z_callV g _ _ cv_X11_260 (n_frm _ M hM hO f _ _ _) hM.k0 (by decide) rfl (by rw [hR]; decide) (by rw [hR]; decide) (by rw [hR]; decide) (Nat.le_of_ble_eq_true rfl) rfl dX11_seen_62 (fun _ _ h => False.elim h) (fun r_62 M_62 h_62 => ?_)
          obtain ⟨rfl, se⟩ := h_62
          exact z_lret g hrt (by decide) (by decide) dX11_seen_65 ⟨by simp [sneA, eq_false c_18, eq_true c_24, eq_false c_39, eq_false c_45], se⟩
        · refine z_iload_n g dX11_seen_48 rfl ?_
          refine z_goto (tgt := 54) g dX11_seen_49 (by decide) ?_
          refine z_aload_n g dX11_seen_54 rfl ?_
          refine z_getI g fl_X11_238 hM.k0 (by decide) rfl dX11_seen_55 ?_
          rw [hM.sc (k := 1) (by decide) (by decide)]
          refine z_aload_n g dX11_seen_58 rfl ?_
          refine z_getI g fl_X11_238 hM.k0 (by decide) rfl dX11_seen_59 ?_
          rw [hM.sc (k := 1) (by decide) (by decide)]
          refine z_callV g _ _ cv_X11_260 (n_frm _ M hM hO f _ _ _) hM.k0 (by decide) rfl (by rw [hR]; decide) (by rw [hR]; decide) (by rw [hR]; decide) (Nat.le_of_ble_eq_true rfl) rfl dX11_seen_62 (fun _ _ h => False.elim h) (fun r_62 M_62 h_62 => ?_)
          obtain ⟨rfl, se⟩ := h_62
          exact z_lret g hrt (by decide) (by decide) dX11_seen_65 ⟨by simp [sneA, eq_false c_18, eq_true c_24, eq_false c_39, eq_true c_45], se⟩
    · refine z_iload_n g dX11_seen_27 rfl ?_
      refine z_goto (tgt := 33) g dX11_seen_28 (by decide) ?_
      refine z_istore g dX11_seen_33 (by rw [hN]; decide) ?_
      refine z_aload_n g dX11_seen_35 rfl ?_
      refine z_iload_n g dX11_seen_36 rfl ?_
      refine z_iload_n g dX11_seen_37 rfl ?_
      refine z_iload_n g dX11_seen_38 rfl ?_
      refine z_icmp_eq (tgt := 48) g dX11_seen_39 (by decide) (fun c_39 => ?_) (fun c_39 => ?_)
      · refine z_iload_n g dX11_seen_48 rfl ?_
        refine z_goto (tgt := 54) g dX11_seen_49 (by decide) ?_
        refine z_aload_n g dX11_seen_54 rfl ?_
        refine z_getI g fl_X11_238 hM.k0 (by decide) rfl dX11_seen_55 ?_
        rw [hM.sc (k := 1) (by decide) (by decide)]
        refine z_aload_n g dX11_seen_58 rfl ?_
        refine z_getI g fl_X11_238 hM.k0 (by decide) rfl dX11_seen_59 ?_
        rw [hM.sc (k := 1) (by decide) (by decide)]
        refine z_callV g _ _ cv_X11_260 (n_frm _ M hM hO f _ _ _) hM.k0 (by decide) rfl (by rw [hR]; decide) (by rw [hR]; decide) (by rw [hR]; decide) (Nat.le_of_ble_eq_true rfl) rfl dX11_seen_62 (fun _ _ h => False.elim h) (fun r_62 M_62 h_62 => ?_)
        obtain ⟨rfl, se⟩ := h_62
        exact z_lret g hrt (by decide) (by decide) dX11_seen_65 ⟨by simp [sneA, eq_false c_18, eq_false c_24, eq_true c_39], se⟩
      · refine z_iload_n g dX11_seen_42 rfl ?_
        refine z_iload g dX11_seen_43 rfl ?_
        refine z_icmp_ne (tgt := 52) g dX11_seen_45 (by decide) (fun c_45 => ?_) (fun c_45 => ?_)
        · refine z_iload g dX11_seen_52 rfl ?_
          refine z_aload_n g dX11_seen_54 rfl ?_
          refine z_getI g fl_X11_238 hM.k0 (by decide) rfl dX11_seen_55 ?_
          rw [hM.sc (k := 1) (by decide) (by decide)]
          refine z_aload_n g dX11_seen_58 rfl ?_
          refine z_getI g fl_X11_238 hM.k0 (by decide) rfl dX11_seen_59 ?_
          rw [hM.sc (k := 1) (by decide) (by decide)]
          refine z_callV g _ _ cv_X11_260 (n_frm _ M hM hO f _ _ _) hM.k0 (by decide) rfl (by rw [hR]; decide) (by rw [hR]; decide) (by rw [hR]; decide) (Nat.le_of_ble_eq_true rfl) rfl dX11_seen_62 (fun _ _ h => False.elim h) (fun r_62 M_62 h_62 => ?_)
          obtain ⟨rfl, se⟩ := h_62
          exact z_lret g hrt (by decide) (by decide) dX11_seen_65 ⟨by simp [sneA, eq_false c_18, eq_false c_24, eq_false c_39, eq_false c_45], se⟩
        · refine z_iload_n g dX11_seen_48 rfl ?_
          refine z_goto (tgt := 54) g dX11_seen_49 (by decide) ?_
          refine z_aload_n g dX11_seen_54 rfl ?_
          refine z_getI g fl_X11_238 hM.k0 (by decide) rfl dX11_seen_55 ?_
          rw [hM.sc (k := 1) (by decide) (by decide)]
          refine z_aload_n g dX11_seen_58 rfl ?_
          refine z_getI g fl_X11_238 hM.k0 (by decide) rfl dX11_seen_59 ?_
          rw [hM.sc (k := 1) (by decide) (by decide)]
          refine z_callV g _ _ cv_X11_260 (n_frm _ M hM hO f _ _ _) hM.k0 (by decide) rfl (by rw [hR]; decide) (by rw [hR]; decide) (by rw [hR]; decide) (Nat.le_of_ble_eq_true rfl) rfl dX11_seen_62 (fun _ _ h => False.elim h) (fun r_62 M_62 h_62 => ?_)
          obtain ⟨rfl, se⟩ := h_62
          exact z_lret g hrt (by decide) (by decide) dX11_seen_65 ⟨by simp [sneA, eq_false c_18, eq_false c_24, eq_false c_39, eq_true c_45], se⟩
set_option maxHeartbeats 4000000 in
set_option maxRecDepth 100000 in
theorem m_display (E : Ev) {A : Nat → Nat} {m : Nat} {S : Ms} (M : Mm) (hM : RM A m S M) (hV : INV S) (f t : Int32) : CT E yX11_display cX11_display 3 (some .long) 6 0 0 [.ref m, .int f, .int t] M (mAns A m (opS (cDisplay S f t) S (sDisplay S f t)) M (some (.long (opV (cDisplay S f t) (vDisplay S f t) 0)))) noX := by
  refine CT.of rfl (Nat.le_of_ble_eq_true rfl) (fun X g hrt hno hE hN hR hI => ?_)
  subst hE
  obtain ⟨v1, v2, v17, v24, v31, v36, v51, v58, v59⟩ := hV.1
  have hV0 := hV
  obtain ⟨-, vF, vN, vM, vL, vX, vP, vQ, vT, vR, vS, vO⟩ := hV
  have fr0 := FM.rf (A := A) (m := m) (M := M)
  rcases inN (n := cn S 2) (by have := v2.2; omega) f with hF | ⟨j, hj, rfl, hF⟩
  · rw [← v2.1] at hF
    refine z_aload_n g dX11_display_0 rfl ?_
    refine z_aload_n g dX11_display_1 rfl ?_
    refine z_iload_n g dX11_display_2 rfl ?_
    refine z_callV g _ _ cv_X11_245 (n_isF _ M hM f) hM.k0 (by decide) rfl (by rw [hR]; decide) (by rw [hR]; decide) (by rw [hR]; decide) (Nat.le_of_ble_eq_true rfl) rfl dX11_display_3 (fun _ _ h => False.elim h) (fun r_3 M_3 h_3 => ?_)
    obtain ⟨rfl, rfl⟩ := h_3
    rw [hF]
    refine z_if_eq (tgt := 20) g dX11_display_6 (by decide) (fun _ => ?_) (fun c_6 => absurd c_6 (by decide))
    refine z_iconst (v := 1) g dX11_display_20 (by decide) ?_
    have hc : cDisplay S f t = 1 := by simp [cDisplay, isF, hF]
    refine z_callV g _ _ cv_X11_234 (n_holds _ M hM fr0 1) hM.k0 (by decide) rfl (by rw [hR]; decide) (by rw [hR]; decide) (by rw [hR]; decide) (Nat.le_of_ble_eq_true rfl) rfl dX11_display_21 (fun _ _ h => False.elim h) (fun r_21 M1 h_21 => ?_)
    obtain ⟨rfl, hM1, fr1⟩ := h_21
    refine z_if_eq (tgt := 36) g dX11_display_24 (by decide) (fun _ => ?_) (fun c_24 => absurd c_24 (by decide))
    refine z_lconst (v := 0) g dX11_display_36 (by decide) ?_
    exact z_lret g hrt (by decide) (by decide) dX11_display_37 ⟨by rw [hc, opV_1], by rw [hc, opS_1]; exact hM1, fr1⟩
  · rw [← v2.1] at hF
    have hj24 : j < 24 := by have := v2.2; omega
    refine z_aload_n g dX11_display_0 rfl ?_
    refine z_aload_n g dX11_display_1 rfl ?_
    refine z_iload_n g dX11_display_2 rfl ?_
    refine z_callV g _ _ cv_X11_245 (n_isF _ M hM (nI j)) hM.k0 (by decide) rfl (by rw [hR]; decide) (by rw [hR]; decide) (by rw [hR]; decide) (Nat.le_of_ble_eq_true rfl) rfl dX11_display_3 (fun _ _ h => False.elim h) (fun r_3 M_3 h_3 => ?_)
    obtain ⟨rfl, rfl⟩ := h_3
    rw [hF]
    have hcl : (nI j).toNatClampNeg = j := nI_clamp (by omega)
    refine z_if_eq (tgt := 20) g dX11_display_6 (by decide) (fun c => absurd c (by decide)) (fun _ => ?_)
    refine z_iload_n g dX11_display_9 rfl ?_
    refine z_callS g _ _ cs_X11_264 (n_isT _ M t) rfl (by rw [hR]; decide) (by rw [hR]; decide) (by rw [hR]; decide) (Nat.le_of_ble_eq_true rfl) rfl dX11_display_10 (fun _ _ h => False.elim h) (fun r_10 M_10 h_10 => ?_)
    obtain ⟨rfl, rfl⟩ := h_10
    refine z_if_eq (tgt := 20) g dX11_display_13 (by decide) (fun c_13 => ?_) (fun c_13 => ?_)
    · first | rw [b2i_0] at c_13 | rw [b2i_n0] at c_13 | skip
      refine z_iconst (v := 1) g dX11_display_20 (by decide) ?_
      have hc : cDisplay S (nI j) t = 1 := by simp [cDisplay, isF, hF, c_13]
      refine z_callV g _ _ cv_X11_234 (n_holds _ M hM fr0 1) hM.k0 (by decide) rfl (by rw [hR]; decide) (by rw [hR]; decide) (by rw [hR]; decide) (Nat.le_of_ble_eq_true rfl) rfl dX11_display_21 (fun _ _ h => False.elim h) (fun r_21 M1 h_21 => ?_)
      obtain ⟨rfl, hM1, fr1⟩ := h_21
      refine z_if_eq (tgt := 36) g dX11_display_24 (by decide) (fun _ => ?_) (fun c_24 => absurd c_24 (by decide))
      refine z_lconst (v := 0) g dX11_display_36 (by decide) ?_
      exact z_lret g hrt (by decide) (by decide) dX11_display_37 ⟨by rw [hc, opV_1], by rw [hc, opS_1]; exact hM1, fr1⟩
    · first | rw [b2i_0] at c_13 | rw [b2i_n0] at c_13 | skip
      refine z_iconst (v := 0) g dX11_display_16 (by decide) ?_
      refine z_goto (tgt := 21) g dX11_display_17 (by decide) ?_
      have hc : cDisplay S (nI j) t = 0 := by simp [cDisplay, isF, hF, c_13]
      refine z_callV g _ _ cv_X11_234 (n_holds _ M hM fr0 0) hM.k0 (by decide) rfl (by rw [hR]; decide) (by rw [hR]; decide) (by rw [hR]; decide) (Nat.le_of_ble_eq_true rfl) rfl dX11_display_21 (fun _ _ h => False.elim h) (fun r_21 M2 h_21 => ?_)
      obtain ⟨rfl, hM2, fr2⟩ := h_21
      refine z_if_eq (tgt := 36) g dX11_display_24 (by decide) (fun c_24 => absurd c_24 (by decide)) (fun _ => ?_)
      refine z_aload_n g dX11_display_27 rfl ?_
      refine z_iload_n g dX11_display_28 rfl ?_
      refine z_iload_n g dX11_display_29 rfl ?_
      refine z_callV g _ _ cv_X11_292 (n_seen _ M2 hM2 (OkF_wi0 hV0.OkF) j hj24 t) hM2.k0 (by decide) rfl (by rw [hR]; decide) (by rw [hR]; decide) (by rw [hR]; decide) (Nat.le_of_ble_eq_true rfl) rfl dX11_display_30 (fun _ _ h => False.elim h) (fun r_30 M3 h_30 => ?_)
      obtain ⟨rfl, se_30⟩ := h_30
      have hM3 := hM2.SE se_30
      have fr3 := fr2.tr se_30.FM
      rw [sneA_eq (S := S) (eqF_wi0 S 0) rfl rfl rfl]
      refine z_goto (tgt := 37) g dX11_display_33 (by decide) ?_
      exact z_lret g hrt (by decide) (by decide) dX11_display_37 ⟨by rw [hc, opV_0]; rw [vDisplay, hcl], by rw [hc, opS_0]; exact hM3, fr3⟩
set_option maxHeartbeats 4000000 in
set_option maxRecDepth 100000 in
theorem m_shown (E : Ev) {A : Nat → Nat} {m : Nat} {S : Ms} (M : Mm) (hM : RM A m S M) (hV : INV S) (f d : Int32) : CT E yX11_shown cX11_shown 7 (some .int) 5 0 0 [.ref m, .int f, .int d] M (mAns A m (opS (cShown S f d) S (sShown S f d)) M (some (.int (opV (cShown S f d) (vShown S f d) 0)))) noX := by
  refine CT.of rfl (Nat.le_of_ble_eq_true rfl) (fun X g hrt hno hE hN hR hI => ?_)
  subst hE
  obtain ⟨v1, v2, v17, v24, v31, v36, v51, v58, v59⟩ := hV.1
  have hV0 := hV
  obtain ⟨-, vF, vN, vM, vL, vX, vP, vQ, vT, vR, vS, vO⟩ := hV
  have fr0 := FM.rf (A := A) (m := m) (M := M)
  rcases inN (n := cn S 2) (by have := v2.2; omega) f with hF | ⟨j, hj, rfl, hF⟩
  · rw [← v2.1] at hF
    refine z_aload_n g dX11_shown_0 rfl ?_
    refine z_aload_n g dX11_shown_1 rfl ?_
    refine z_iload_n g dX11_shown_2 rfl ?_
    refine z_callV g _ _ cv_X11_245 (n_isF _ M hM f) hM.k0 (by decide) rfl (by rw [hR]; decide) (by rw [hR]; decide) (by rw [hR]; decide) (Nat.le_of_ble_eq_true rfl) rfl dX11_shown_3 (fun _ _ h => False.elim h) (fun r_3 M_3 h_3 => ?_)
    obtain ⟨rfl, rfl⟩ := h_3
    rw [hF]
    refine z_if_ne (tgt := 13) g dX11_shown_6 (by decide) (fun c_6 => absurd c_6 (by decide)) (fun _ => ?_)
    refine z_iconst (v := 1) g dX11_shown_9 (by decide) ?_
    refine z_goto (tgt := 25) g dX11_shown_10 (by decide) ?_
    have hc : cShown S f d = 1 := by simp [cShown, isF, hF]
    refine z_callV g _ _ cv_X11_234 (n_holds _ M hM fr0 1) hM.k0 (by decide) rfl (by rw [hR]; decide) (by rw [hR]; decide) (by rw [hR]; decide) (Nat.le_of_ble_eq_true rfl) rfl dX11_shown_25 (fun _ _ h => False.elim h) (fun r_25 M1 h_25 => ?_)
    obtain ⟨rfl, hM1, fr1⟩ := h_25
    refine z_if_ne (tgt := 33) g dX11_shown_28 (by decide) (fun c_28 => absurd c_28 (by decide)) (fun _ => ?_)
    refine z_iconst (v := 0) g dX11_shown_31 (by decide) ?_
    exact z_iret g hrt rfl (by decide) (by decide) dX11_shown_32 ⟨by rw [hc, opV_1], by rw [hc, opS_1]; exact hM1, fr1⟩
  · rw [← v2.1] at hF
    have hj24 : j < 24 := by have := v2.2; omega
    refine z_aload_n g dX11_shown_0 rfl ?_
    refine z_aload_n g dX11_shown_1 rfl ?_
    refine z_iload_n g dX11_shown_2 rfl ?_
    refine z_callV g _ _ cv_X11_245 (n_isF _ M hM (nI j)) hM.k0 (by decide) rfl (by rw [hR]; decide) (by rw [hR]; decide) (by rw [hR]; decide) (Nat.le_of_ble_eq_true rfl) rfl dX11_shown_3 (fun _ _ h => False.elim h) (fun r_3 M_3 h_3 => ?_)
    obtain ⟨rfl, rfl⟩ := h_3
    rw [hF]
    have hcl : (nI j).toNatClampNeg = j := nI_clamp (by omega)
    refine z_if_ne (tgt := 13) g dX11_shown_6 (by decide) (fun _ => ?_) (fun c => absurd c (by decide))
    refine z_iload_n g dX11_shown_13 rfl ?_
    refine z_callS g _ _ cs_X11_248 (n_isD _ M d) rfl (by rw [hR]; decide) (by rw [hR]; decide) (by rw [hR]; decide) (Nat.le_of_ble_eq_true rfl) rfl dX11_shown_14 (fun _ _ h => False.elim h) (fun r_14 M_14 h_14 => ?_)
    obtain ⟨rfl, rfl⟩ := h_14
    refine z_if_eq (tgt := 24) g dX11_shown_17 (by decide) (fun c_17 => ?_) (fun c_17 => ?_)
    · first | rw [b2i_0] at c_17 | rw [b2i_n0] at c_17 | skip
      refine z_iconst (v := 2) g dX11_shown_24 (by decide) ?_
      have hc : cShown S (nI j) d = 2 := by simp [cShown, isF, hF, c_17]
      refine z_callV g _ _ cv_X11_234 (n_holds _ M hM fr0 2) hM.k0 (by decide) rfl (by rw [hR]; decide) (by rw [hR]; decide) (by rw [hR]; decide) (Nat.le_of_ble_eq_true rfl) rfl dX11_shown_25 (fun _ _ h => False.elim h) (fun r_25 M1 h_25 => ?_)
      obtain ⟨rfl, hM1, fr1⟩ := h_25
      refine z_if_ne (tgt := 33) g dX11_shown_28 (by decide) (fun c_28 => absurd c_28 (by decide)) (fun _ => ?_)
      refine z_iconst (v := 0) g dX11_shown_31 (by decide) ?_
      exact z_iret g hrt rfl (by decide) (by decide) dX11_shown_32 ⟨by rw [hc, opV_2], by rw [hc, opS_2]; exact hM1, fr1⟩
    · first | rw [b2i_0] at c_17 | rw [b2i_n0] at c_17 | skip
      refine z_iconst (v := 0) g dX11_shown_20 (by decide) ?_
      refine z_goto (tgt := 25) g dX11_shown_21 (by decide) ?_
      have hc : cShown S (nI j) d = 0 := by simp [cShown, isF, hF, c_17]
      refine z_callV g _ _ cv_X11_234 (n_holds _ M hM fr0 0) hM.k0 (by decide) rfl (by rw [hR]; decide) (by rw [hR]; decide) (by rw [hR]; decide) (Nat.le_of_ble_eq_true rfl) rfl dX11_shown_25 (fun _ _ h => False.elim h) (fun r_25 M2 h_25 => ?_)
      obtain ⟨rfl, hM2, fr2⟩ := h_25
      refine z_if_ne (tgt := 33) g dX11_shown_28 (by decide) (fun _ => ?_) (fun c_28 => absurd c_28 (by decide))
      refine z_iconst (v := 0) g dX11_shown_33 (by decide) ?_
      refine z_istore_n g dX11_shown_34 (by rw [hN]; decide) ?_
      refine z_iconst (v := (-1)) g dX11_shown_35 (by decide) ?_
      refine z_istore g dX11_shown_36 (by rw [hN]; decide) ?_
      refine z_iconst (v := 0) g dX11_shown_38 (by decide) ?_
      refine z_istore g dX11_shown_39 (by rw [hN]; decide) ?_
      have fin : ∀ (M1 : Mm) {bb : Option Nat} (x : Int32) (hx : x = o2i 0 bb) (hM1 : RM A m (wi S 0 0) M1) (fr1 : FM A m M M1) (ho : (shL S j d 4).2 = bb), Z X M1 0 0 132 [(3, .int (shL S j d 4).1), (4, .int x)] [] := by
        intro M1 bb x hx hM1 fr1 ho
        rcases bb with _ | q
        · subst hx; show Z X M1 0 0 132 [(3, .int (shL S j d 4).1), (4, .int (-1))] []
          refine z_iload_n g dX11_shown_132 rfl ?_
          refine z_if_eq (tgt := 140) g dX11_shown_133 (by decide) (fun c_133 => ?_) (fun c_133 => ?_)
          · refine z_iload g dX11_shown_140 rfl ?_
            refine z_iconst (v := (-1)) g dX11_shown_142 (by decide) ?_
            refine z_icmp_ne (tgt := 150) g dX11_shown_143 (by decide) (fun c_143 => (by exact absurd rfl c_143)) (fun c_143 => ?_)
            refine z_iconst (v := 0) g dX11_shown_146 (by decide) ?_
            refine z_goto (tgt := 154) g dX11_shown_147 (by decide) ?_
            exact z_iret g hrt rfl (by decide) (by decide) dX11_shown_154 ⟨by rw [hc, opV_0, vShown, hcl]; first | rw [if_pos c_133] | (rw [if_neg (fun z => z c_133), ho]), by rw [hc, opS_0]; exact hM1, fr1⟩
          · refine z_iload_n g dX11_shown_136 rfl ?_
            refine z_goto (tgt := 154) g dX11_shown_137 (by decide) ?_
            exact z_iret g hrt rfl (by decide) (by decide) dX11_shown_154 ⟨by rw [hc, opV_0, vShown, hcl]; first | rw [if_pos c_133] | (rw [if_neg (fun z => z c_133), ho]), by rw [hc, opS_0]; exact hM1, fr1⟩
        · rw [o2i0] at hx
          subst hx
          have hq := shL_lt ho
          refine z_iload_n g dX11_shown_132 rfl ?_
          refine z_if_eq (tgt := 140) g dX11_shown_133 (by decide) (fun c_133 => ?_) (fun c_133 => ?_)
          · refine z_iload g dX11_shown_140 rfl ?_
            refine z_iconst (v := (-1)) g dX11_shown_142 (by decide) ?_
            refine z_icmp_ne (tgt := 150) g dX11_shown_143 (by decide) (fun c_143 => ?_) (fun c_143 => (by exact absurd c_143 (m1_ne (by omega))))
            refine z_iconst (v := 1) g dX11_shown_150 (by decide) ?_
            refine z_iload g dX11_shown_151 rfl ?_
            refine z_ishl g dX11_shown_153 ?_
            exact z_iret g hrt rfl (by decide) (by decide) dX11_shown_154 ⟨by rw [hc, opV_0, vShown, hcl]; first | rw [if_pos c_133] | (rw [if_neg (fun z => z c_133), ho]), by rw [hc, opS_0]; exact hM1, fr1⟩
          · refine z_iload_n g dX11_shown_136 rfl ?_
            refine z_goto (tgt := 154) g dX11_shown_137 (by decide) ?_
            exact z_iret g hrt rfl (by decide) (by decide) dX11_shown_154 ⟨by rw [hc, opV_0, vShown, hcl]; first | rw [if_pos c_133] | (rw [if_neg (fun z => z c_133), ho]), by rw [hc, opS_0]; exact hM1, fr1⟩
      have loop : ∀ (k i_ : Nat) (M1 : Mm) (hk : k + i_ = 4) (hM1 : RM A m (wi S 0 0) M1) (fr1 : FM A m M M1), Z X M1 0 0 41 [(0, .ref m), (1, .int (nI j)), (2, .int d), (3, .int (shL S j d i_).1), (4, .int (o2i 0 (shL S j d i_).2)), (5, .int (nI i_))] [] := by
        intro k
        induction k using Nat.strongRecOn with
        | _ k ih =>
          intro i_ M1 hk hM1 fr1
          rcases ho : (shL S j d i_).2 with _ | q
          · show Z X M1 0 0 41 [(0, .ref m), (1, .int (nI j)), (2, .int d), (3, .int (shL S j d i_).1), (4, .int (-1)), (5, .int (nI i_))] []
            refine z_iload g dX11_shown_41 rfl ?_
            refine z_iconst (v := 4) g dX11_shown_43 (by decide) ?_
            refine z_icmp_ge (tgt := 132) g dX11_shown_44 (by decide) (fun c_44 => ?_) (fun c_44 => ?_)
            · rw [show (4 : Int32) = nI 4 from rfl, nI_leI (by omega) (by omega)] at c_44
              have hj4 : i_ = 4 := by omega
              subst hj4
              exact z_to (fin M1 _ (by first | rfl | rw [o2i0]) hM1 fr1 ho) ⟨rfl, rfl, trivial⟩
            have h44 : i_ < 4 := by rw [show (4 : Int32) = nI 4 from rfl, nI_leI (by omega) (by omega)] at c_44; omega
            refine z_aload_n g dX11_shown_47 rfl ?_
            refine z_iload_n g dX11_shown_48 rfl ?_
            refine z_iload g dX11_shown_49 rfl ?_
            refine z_iload_n g dX11_shown_51 rfl ?_
            refine z_aload_n g dX11_shown_52 rfl ?_
            refine z_getI g fl_X11_238 hM1.k0 (by decide) rfl dX11_shown_53 ?_
            rw [show fI _ m 1 = gi S 1 from hM1.sc (k := 1) (by decide) (by decide)]
            refine z_callV g _ _ cv_X11_260 (n_frm _ M1 hM1 (OkF_wi0 hV0.OkF) j (nI i_) d (gi S 1)) hM1.k0 (by decide) rfl (by rw [hR]; decide) (by rw [hR]; decide) (by rw [hR]; decide) (Nat.le_of_ble_eq_true rfl) rfl dX11_shown_56 (fun _ _ h => False.elim h) (fun r_56 M1 h_56 => ?_)
            obtain ⟨rfl, se_56⟩ := h_56
            have hM1 := hM1.SE se_56
            have fr1 := fr1.tr se_56.FM
            rw [formA_wi0]
            refine z_lconst (v := 0) g dX11_shown_59 (by decide) ?_
            refine z_lcmp g dX11_shown_60 ?_
            refine z_if_eq (tgt := 126) g dX11_shown_61 (by decide) (fun c_61 => ?_) (fun c_61 => ?_)
            · refine z_iinc1 g dX11_shown_126 rfl (by rw [hN]; decide) ?_
              refine z_goto (tgt := 41) g dX11_shown_129 (by decide) ?_
              rw [nI_s]
              have hst : shL S j d (i_ + 1) = shL S j d i_ := by rw [shL, if_pos ((lg_cmp_eq _ _).mp c_61)]
              have hs := ih (k - 1) (by omega) (i_ + 1) M1 (by omega) hM1 fr1
              rw [hst, ho] at hs
              try rw [o2i0] at hs
              exact z_to hs ⟨rfl, rfl, rfl, rfl, rfl, rfl, trivial⟩
            · refine z_aload_n g dX11_shown_64 rfl ?_
              refine z_getR g fl_X11_131 hM1.k0 (by decide) rfl (hM1.ref (k := 47) (by decide)) dX11_shown_65 ?_
              refine z_iconst (v := 4) g dX11_shown_68 (by decide) ?_
              refine z_iload_n g dX11_shown_69 rfl ?_
              refine z_imul g dX11_shown_70 ?_
              rw [m4]
              refine z_iload g dX11_shown_71 rfl ?_
              refine z_iadd g dX11_shown_73 ?_
              rw [nI_add]
              refine z_ialdk g (hM1.kA1 (k := 47) (by decide)) (by decide) (vp_in_nI (by rw [hM1.lnI (k := 47) (by decide)]; show _ < 96; omega) (by rw [hM1.lnI (k := 47) (by decide)]; decide)) dX11_shown_74 ?_
              rw [nI_clamp (by omega), show fI _ (A 47) = gA S 47 from hM1.row (k := 47) (by decide) (by decide)]
              refine z_istore g dX11_shown_75 (by rw [hN]; decide) ?_
              refine z_iload_n g dX11_shown_77 rfl ?_
              refine z_iload g dX11_shown_78 rfl ?_
              refine z_bipush (v := 20) g dX11_shown_80 (by decide) ?_
              refine z_icmp_lt (tgt := 92) g dX11_shown_82 (by decide) (fun c_82 => ?_) (fun c_82 => ?_)
              · refine z_iconst (v := 0) g dX11_shown_92 (by decide) ?_
                refine z_ior g dX11_shown_93 ?_
                refine z_istore_n g dX11_shown_94 (by rw [hN]; decide) ?_
                refine z_iload g dX11_shown_95 rfl ?_
                refine z_iconst (v := (-1)) g dX11_shown_97 (by decide) ?_
                refine z_icmp_eq (tgt := 117) g dX11_shown_98 (by decide) (fun c_98 => ?_) (fun c_98 => (by exact absurd rfl c_98))
                refine z_iload g dX11_shown_117 rfl ?_
                refine z_goto (tgt := 124) g dX11_shown_119 (by decide) ?_
                refine z_istore g dX11_shown_124 (by rw [hN]; decide) ?_
                refine z_iinc1 g dX11_shown_126 rfl (by rw [hN]; decide) ?_
                refine z_goto (tgt := 41) g dX11_shown_129 (by decide) ?_
                rw [nI_s]
                have hst : shL S j d (i_ + 1) = ((shL S j d i_).1 ||| (0 : Int32), some i_) := by
                  rw [shL, if_neg (fun z => c_61 ((lg_cmp_eq _ _).mpr z)), ho]
                  simp [eq_true c_82]
                have hs := ih (k - 1) (by omega) (i_ + 1) M1 (by omega) hM1 fr1
                rw [hst] at hs
                dsimp only at hs
                rw [o2i0] at hs
                exact z_to hs ⟨rfl, rfl, rfl, rfl, rfl, rfl, trivial⟩
              · refine z_iconst (v := 1) g dX11_shown_85 (by decide) ?_
                refine z_iload g dX11_shown_86 rfl ?_
                refine z_ishl g dX11_shown_88 ?_
                refine z_goto (tgt := 93) g dX11_shown_89 (by decide) ?_
                refine z_ior g dX11_shown_93 ?_
                refine z_istore_n g dX11_shown_94 (by rw [hN]; decide) ?_
                refine z_iload g dX11_shown_95 rfl ?_
                refine z_iconst (v := (-1)) g dX11_shown_97 (by decide) ?_
                refine z_icmp_eq (tgt := 117) g dX11_shown_98 (by decide) (fun c_98 => ?_) (fun c_98 => (by exact absurd rfl c_98))
                refine z_iload g dX11_shown_117 rfl ?_
                refine z_goto (tgt := 124) g dX11_shown_119 (by decide) ?_
                refine z_istore g dX11_shown_124 (by rw [hN]; decide) ?_
                refine z_iinc1 g dX11_shown_126 rfl (by rw [hN]; decide) ?_
                refine z_goto (tgt := 41) g dX11_shown_129 (by decide) ?_
                rw [nI_s]
                have hst : shL S j d (i_ + 1) = ((shL S j d i_).1 ||| ((1 : Int32) <<< (nI i_ &&& 31)), some i_) := by
                  rw [shL, if_neg (fun z => c_61 ((lg_cmp_eq _ _).mpr z)), ho]
                  simp [eq_false c_82]
                have hs := ih (k - 1) (by omega) (i_ + 1) M1 (by omega) hM1 fr1
                rw [hst] at hs
                dsimp only at hs
                rw [o2i0] at hs
                exact z_to hs ⟨rfl, rfl, rfl, rfl, rfl, rfl, trivial⟩
          · rw [o2i0]
            have hq := shL_lt ho
            refine z_iload g dX11_shown_41 rfl ?_
            refine z_iconst (v := 4) g dX11_shown_43 (by decide) ?_
            refine z_icmp_ge (tgt := 132) g dX11_shown_44 (by decide) (fun c_44 => ?_) (fun c_44 => ?_)
            · rw [show (4 : Int32) = nI 4 from rfl, nI_leI (by omega) (by omega)] at c_44
              have hj4 : i_ = 4 := by omega
              subst hj4
              exact z_to (fin M1 _ (by first | rfl | rw [o2i0]) hM1 fr1 ho) ⟨rfl, rfl, trivial⟩
            have h44 : i_ < 4 := by rw [show (4 : Int32) = nI 4 from rfl, nI_leI (by omega) (by omega)] at c_44; omega
            refine z_aload_n g dX11_shown_47 rfl ?_
            refine z_iload_n g dX11_shown_48 rfl ?_
            refine z_iload g dX11_shown_49 rfl ?_
            refine z_iload_n g dX11_shown_51 rfl ?_
            refine z_aload_n g dX11_shown_52 rfl ?_
            refine z_getI g fl_X11_238 hM1.k0 (by decide) rfl dX11_shown_53 ?_
            rw [show fI _ m 1 = gi S 1 from hM1.sc (k := 1) (by decide) (by decide)]
            refine z_callV g _ _ cv_X11_260 (n_frm _ M1 hM1 (OkF_wi0 hV0.OkF) j (nI i_) d (gi S 1)) hM1.k0 (by decide) rfl (by rw [hR]; decide) (by rw [hR]; decide) (by rw [hR]; decide) (Nat.le_of_ble_eq_true rfl) rfl dX11_shown_56 (fun _ _ h => False.elim h) (fun r_56 M1 h_56 => ?_)
            obtain ⟨rfl, se_56⟩ := h_56
            have hM1 := hM1.SE se_56
            have fr1 := fr1.tr se_56.FM
            rw [formA_wi0]
            refine z_lconst (v := 0) g dX11_shown_59 (by decide) ?_
            refine z_lcmp g dX11_shown_60 ?_
            refine z_if_eq (tgt := 126) g dX11_shown_61 (by decide) (fun c_61 => ?_) (fun c_61 => ?_)
            · refine z_iinc1 g dX11_shown_126 rfl (by rw [hN]; decide) ?_
              refine z_goto (tgt := 41) g dX11_shown_129 (by decide) ?_
              rw [nI_s]
              have hst : shL S j d (i_ + 1) = shL S j d i_ := by rw [shL, if_pos ((lg_cmp_eq _ _).mp c_61)]
              have hs := ih (k - 1) (by omega) (i_ + 1) M1 (by omega) hM1 fr1
              rw [hst, ho] at hs
              try rw [o2i0] at hs
              exact z_to hs ⟨rfl, rfl, rfl, rfl, rfl, rfl, trivial⟩
            · refine z_aload_n g dX11_shown_64 rfl ?_
              refine z_getR g fl_X11_131 hM1.k0 (by decide) rfl (hM1.ref (k := 47) (by decide)) dX11_shown_65 ?_
              refine z_iconst (v := 4) g dX11_shown_68 (by decide) ?_
              refine z_iload_n g dX11_shown_69 rfl ?_
              refine z_imul g dX11_shown_70 ?_
              rw [m4]
              refine z_iload g dX11_shown_71 rfl ?_
              refine z_iadd g dX11_shown_73 ?_
              rw [nI_add]
              refine z_ialdk g (hM1.kA1 (k := 47) (by decide)) (by decide) (vp_in_nI (by rw [hM1.lnI (k := 47) (by decide)]; show _ < 96; omega) (by rw [hM1.lnI (k := 47) (by decide)]; decide)) dX11_shown_74 ?_
              rw [nI_clamp (by omega), show fI _ (A 47) = gA S 47 from hM1.row (k := 47) (by decide) (by decide)]
              refine z_istore g dX11_shown_75 (by rw [hN]; decide) ?_
              refine z_iload_n g dX11_shown_77 rfl ?_
              refine z_iload g dX11_shown_78 rfl ?_
              refine z_bipush (v := 20) g dX11_shown_80 (by decide) ?_
              refine z_icmp_lt (tgt := 92) g dX11_shown_82 (by decide) (fun c_82 => ?_) (fun c_82 => ?_)
              · refine z_iconst (v := 0) g dX11_shown_92 (by decide) ?_
                refine z_ior g dX11_shown_93 ?_
                refine z_istore_n g dX11_shown_94 (by rw [hN]; decide) ?_
                refine z_iload g dX11_shown_95 rfl ?_
                refine z_iconst (v := (-1)) g dX11_shown_97 (by decide) ?_
                refine z_icmp_eq (tgt := 117) g dX11_shown_98 (by decide) (fun c_98 => (by exact absurd c_98 (m1_ne (by omega)))) (fun c_98 => ?_)
                refine z_iload g dX11_shown_101 rfl ?_
                refine z_aload_n g dX11_shown_103 rfl ?_
                refine z_getR g fl_X11_131 hM1.k0 (by decide) rfl (hM1.ref (k := 47) (by decide)) dX11_shown_104 ?_
                refine z_iconst (v := 4) g dX11_shown_107 (by decide) ?_
                refine z_iload_n g dX11_shown_108 rfl ?_
                refine z_imul g dX11_shown_109 ?_
                rw [m4]
                refine z_iload g dX11_shown_110 rfl ?_
                refine z_iadd g dX11_shown_112 ?_
                rw [nI_add]
                refine z_ialdk g (hM1.kA1 (k := 47) (by decide)) (by decide) (vp_in_nI (by rw [hM1.lnI (k := 47) (by decide)]; show _ < 96; omega) (by rw [hM1.lnI (k := 47) (by decide)]; decide)) dX11_shown_113 ?_
                rw [nI_clamp (by omega), show fI _ (A 47) = gA S 47 from hM1.row (k := 47) (by decide) (by decide)]
                refine z_icmp_le (tgt := 122) g dX11_shown_114 (by decide) (fun c_114 => ?_) (fun c_114 => ?_)
                · refine z_iload g dX11_shown_122 rfl ?_
                  refine z_istore g dX11_shown_124 (by rw [hN]; decide) ?_
                  refine z_iinc1 g dX11_shown_126 rfl (by rw [hN]; decide) ?_
                  refine z_goto (tgt := 41) g dX11_shown_129 (by decide) ?_
                  rw [nI_s]
                  have hst : shL S j d (i_ + 1) = ((shL S j d i_).1 ||| (0 : Int32), some q) := by
                    rw [shL, if_neg (fun z => c_61 ((lg_cmp_eq _ _).mpr z)), ho]
                    simp [eq_true c_82, eq_true c_114]
                  have hs := ih (k - 1) (by omega) (i_ + 1) M1 (by omega) hM1 fr1
                  rw [hst] at hs
                  dsimp only at hs
                  rw [o2i0] at hs
                  exact z_to hs ⟨rfl, rfl, rfl, rfl, rfl, rfl, trivial⟩
                · refine z_iload g dX11_shown_117 rfl ?_
                  refine z_goto (tgt := 124) g dX11_shown_119 (by decide) ?_
                  refine z_istore g dX11_shown_124 (by rw [hN]; decide) ?_
                  refine z_iinc1 g dX11_shown_126 rfl (by rw [hN]; decide) ?_
                  refine z_goto (tgt := 41) g dX11_shown_129 (by decide) ?_
                  rw [nI_s]
                  have hst : shL S j d (i_ + 1) = ((shL S j d i_).1 ||| (0 : Int32), some i_) := by
                    rw [shL, if_neg (fun z => c_61 ((lg_cmp_eq _ _).mpr z)), ho]
                    simp [eq_true c_82, eq_false c_114]
                  have hs := ih (k - 1) (by omega) (i_ + 1) M1 (by omega) hM1 fr1
                  rw [hst] at hs
                  dsimp only at hs
                  rw [o2i0] at hs
                  exact z_to hs ⟨rfl, rfl, rfl, rfl, rfl, rfl, trivial⟩
              · refine z_iconst (v := 1) g dX11_shown_85 (by decide) ?_
                refine z_iload g dX11_shown_86 rfl ?_
                refine z_ishl g dX11_shown_88 ?_
                refine z_goto (tgt := 93) g dX11_shown_89 (by decide) ?_
                refine z_ior g dX11_shown_93 ?_
                refine z_istore_n g dX11_shown_94 (by rw [hN]; decide) ?_
                refine z_iload g dX11_shown_95 rfl ?_
                refine z_iconst (v := (-1)) g dX11_shown_97 (by decide) ?_
                refine z_icmp_eq (tgt := 117) g dX11_shown_98 (by decide) (fun c_98 => (by exact absurd c_98 (m1_ne (by omega)))) (fun c_98 => ?_)
                refine z_iload g dX11_shown_101 rfl ?_
                refine z_aload_n g dX11_shown_103 rfl ?_
                refine z_getR g fl_X11_131 hM1.k0 (by decide) rfl (hM1.ref (k := 47) (by decide)) dX11_shown_104 ?_
                refine z_iconst (v := 4) g dX11_shown_107 (by decide) ?_
                refine z_iload_n g dX11_shown_108 rfl ?_
                refine z_imul g dX11_shown_109 ?_
                rw [m4]
                refine z_iload g dX11_shown_110 rfl ?_
                refine z_iadd g dX11_shown_112 ?_
                rw [nI_add]
                refine z_ialdk g (hM1.kA1 (k := 47) (by decide)) (by decide) (vp_in_nI (by rw [hM1.lnI (k := 47) (by decide)]; show _ < 96; omega) (by rw [hM1.lnI (k := 47) (by decide)]; decide)) dX11_shown_113 ?_
                rw [nI_clamp (by omega), show fI _ (A 47) = gA S 47 from hM1.row (k := 47) (by decide) (by decide)]
                refine z_icmp_le (tgt := 122) g dX11_shown_114 (by decide) (fun c_114 => ?_) (fun c_114 => ?_)
                · refine z_iload g dX11_shown_122 rfl ?_
                  refine z_istore g dX11_shown_124 (by rw [hN]; decide) ?_
                  refine z_iinc1 g dX11_shown_126 rfl (by rw [hN]; decide) ?_
                  refine z_goto (tgt := 41) g dX11_shown_129 (by decide) ?_
                  rw [nI_s]
                  have hst : shL S j d (i_ + 1) = ((shL S j d i_).1 ||| ((1 : Int32) <<< (nI i_ &&& 31)), some q) := by
                    rw [shL, if_neg (fun z => c_61 ((lg_cmp_eq _ _).mpr z)), ho]
                    simp [eq_false c_82, eq_true c_114]
                  have hs := ih (k - 1) (by omega) (i_ + 1) M1 (by omega) hM1 fr1
                  rw [hst] at hs
                  dsimp only at hs
                  rw [o2i0] at hs
                  exact z_to hs ⟨rfl, rfl, rfl, rfl, rfl, rfl, trivial⟩
                · refine z_iload g dX11_shown_117 rfl ?_
                  refine z_goto (tgt := 124) g dX11_shown_119 (by decide) ?_
                  refine z_istore g dX11_shown_124 (by rw [hN]; decide) ?_
                  refine z_iinc1 g dX11_shown_126 rfl (by rw [hN]; decide) ?_
                  refine z_goto (tgt := 41) g dX11_shown_129 (by decide) ?_
                  rw [nI_s]
                  have hst : shL S j d (i_ + 1) = ((shL S j d i_).1 ||| ((1 : Int32) <<< (nI i_ &&& 31)), some i_) := by
                    rw [shL, if_neg (fun z => c_61 ((lg_cmp_eq _ _).mpr z)), ho]
                    simp [eq_false c_82, eq_false c_114]
                  have hs := ih (k - 1) (by omega) (i_ + 1) M1 (by omega) hM1 fr1
                  rw [hst] at hs
                  dsimp only at hs
                  rw [o2i0] at hs
                  exact z_to hs ⟨rfl, rfl, rfl, rfl, rfl, rfl, trivial⟩
      exact z_to (loop 4 0 M2 rfl hM2 fr2) ⟨rfl, rfl, rfl, rfl, rfl, rfl, trivial⟩
