/-! ===== the model: the search (printed by gen/mod_d13.py) ===== -/
set_option maxHeartbeats 4000000 in
set_option maxRecDepth 100000 in
theorem n_awy (E : Ev) {A : Nat → Nat} {m : Nat} {S : Ms} (M : Mm) (hM : RM A m S M) (hV : INV S) (f : Nat) (hf : f < cn S 2) (x y : Int32) : CT E yX11_awayOf cX11_awayOf 7 (some .int) 2 0 0 [.ref m, .int (nI f), .int x, .int y] M (ansI (awyA S f x y) M) noX := by
  refine CT.of rfl (Nat.le_of_ble_eq_true rfl) (fun X g hrt hno hE hN hR hI => ?_)
  subst hE
  have vF := hV.2.1
  have hf24 := hV.1.2.1.2
  refine z_aload_n g dX11_awayOf_0 rfl ?_
  refine z_iload_n g dX11_awayOf_1 rfl ?_
  refine z_aload_n g dX11_awayOf_2 rfl ?_
  refine z_getI g fl_X11_238 hM.k0 (by decide) rfl dX11_awayOf_3 ?_
  rw [hM.sc (k := 1) (by decide) (by decide)]
  refine z_aload_n g dX11_awayOf_6 rfl ?_
  refine z_getI g fl_X11_238 hM.k0 (by decide) rfl dX11_awayOf_7 ?_
  rw [hM.sc (k := 1) (by decide) (by decide)]
  refine z_callV g _ _ cv_X11_251 (n_plA _ M hM f (by omega) (vF f hf).2.2.1.1 (vF f hf).2.2.1.2 (gi S 1) (gi S 1)) hM.k0 (by decide) rfl (by rw [hR]; decide) (by rw [hR]; decide) (by rw [hR]; decide) (Nat.le_of_ble_eq_true rfl) rfl dX11_awayOf_10 (fun _ _ h => False.elim h) (fun r_10 M_10 h_10 => ?_)
  obtain ⟨rfl, rfl⟩ := h_10
  obtain ⟨q, hpl, hq⟩ := plA_ex hV hf
  rw [hpl]
  have hq40 := (vF f hf).2.2.1.2
  show Z X _ _ _ _ _ [.int (nI (40 * f + q))]
  refine z_istore g dX11_awayOf_13 (by rw [hN]; decide) ?_
  refine z_aload_n g dX11_awayOf_15 rfl ?_
  refine z_getR g fl_X11_19 hM.k0 (by decide) rfl (hM.ref (k := 6) (by decide)) dX11_awayOf_16 ?_
  refine z_iload g dX11_awayOf_19 rfl ?_
  refine z_ialdk g (hM.kA1 (k := 6) (by decide)) (by decide) (vp_in_nI (by rw [hM.lnI (k := 6) (by decide)]; show _ < 960; omega) (by rw [hM.lnI (k := 6) (by decide)]; decide)) dX11_awayOf_21 ?_
  rw [nI_clamp (by omega), hM.row (k := 6) (by decide) (by decide)]
  refine z_iload_n g dX11_awayOf_22 rfl ?_
  refine z_isub g dX11_awayOf_23 ?_
  refine z_istore g dX11_awayOf_24 (by rw [hN]; decide) ?_
  refine z_aload_n g dX11_awayOf_26 rfl ?_
  refine z_getR g fl_X11_22 hM.k0 (by decide) rfl (hM.ref (k := 7) (by decide)) dX11_awayOf_27 ?_
  refine z_iload g dX11_awayOf_30 rfl ?_
  refine z_ialdk g (hM.kA1 (k := 7) (by decide)) (by decide) (vp_in_nI (by rw [hM.lnI (k := 7) (by decide)]; show _ < 960; omega) (by rw [hM.lnI (k := 7) (by decide)]; decide)) dX11_awayOf_32 ?_
  rw [nI_clamp (by omega), hM.row (k := 7) (by decide) (by decide)]
  refine z_iload_n g dX11_awayOf_33 rfl ?_
  refine z_isub g dX11_awayOf_34 ?_
  refine z_istore g dX11_awayOf_35 (by rw [hN]; decide) ?_
  refine z_iload g dX11_awayOf_37 rfl ?_
  refine z_if_ge (tgt := 48) g dX11_awayOf_39 (by decide) (fun c_39 => ?_) (fun c_39 => ?_)
  · refine z_iload g dX11_awayOf_48 rfl ?_
    refine z_iload g dX11_awayOf_50 rfl ?_
    refine z_if_ge (tgt := 61) g dX11_awayOf_52 (by decide) (fun c_52 => ?_) (fun c_52 => ?_)
    · refine z_iload g dX11_awayOf_61 rfl ?_
      refine z_iadd g dX11_awayOf_63 ?_
      exact z_iret g hrt rfl (by decide) (by decide) dX11_awayOf_64 ⟨by rw [awyA, hpl]; simp [abI, eq_true c_39, eq_true c_52], rfl⟩
    · refine z_iload g dX11_awayOf_55 rfl ?_
      refine z_ineg g dX11_awayOf_57 ?_
      refine z_goto (tgt := 63) g dX11_awayOf_58 (by decide) ?_
      refine z_iadd g dX11_awayOf_63 ?_
      exact z_iret g hrt rfl (by decide) (by decide) dX11_awayOf_64 ⟨by rw [awyA, hpl]; simp [abI, eq_true c_39, eq_false c_52], rfl⟩
  · refine z_iload g dX11_awayOf_42 rfl ?_
    refine z_ineg g dX11_awayOf_44 ?_
    refine z_goto (tgt := 50) g dX11_awayOf_45 (by decide) ?_
    refine z_iload g dX11_awayOf_50 rfl ?_
    refine z_if_ge (tgt := 61) g dX11_awayOf_52 (by decide) (fun c_52 => ?_) (fun c_52 => ?_)
    · refine z_iload g dX11_awayOf_61 rfl ?_
      refine z_iadd g dX11_awayOf_63 ?_
      exact z_iret g hrt rfl (by decide) (by decide) dX11_awayOf_64 ⟨by rw [awyA, hpl]; simp [abI, eq_false c_39, eq_true c_52], rfl⟩
    · refine z_iload g dX11_awayOf_55 rfl ?_
      refine z_ineg g dX11_awayOf_57 ?_
      refine z_goto (tgt := 63) g dX11_awayOf_58 (by decide) ?_
      refine z_iadd g dX11_awayOf_63 ?_
      exact z_iret g hrt rfl (by decide) (by decide) dX11_awayOf_64 ⟨by rw [awyA, hpl]; simp [abI, eq_false c_39, eq_false c_52], rfl⟩
set_option maxHeartbeats 4000000 in
set_option maxRecDepth 100000 in
theorem n_fnw (E : Ev) {A : Nat → Nat} {m : Nat} {S : Ms} (M : Mm) (hM : RM A m S M) (hO : OkF S) (f : Nat) (w : Int64) : CT E yX11_isFormNow cX11_isFormNow 6 (some .boolean) 4 0 0 [.ref m, .int (nI f), .long w] M ((fun r' M' => r' = some (.int (b2i (frL S f w 4))) ∧ SE A m M M')) noX := by
  refine CT.of rfl (Nat.le_of_ble_eq_true rfl) (fun X g hrt hno hE hN hR hI => ?_)
  subst hE
  have loop : ∀ (k j : Nat) (M1 : Mm) (b : Bool) (hk : k + j = 4) (se : SE A m M M1) (hb : frL S f w j = b), Z X M1 0 0 6 [(0, .ref m), (1, .int (nI f)), (2, .long w), (4, .int (b2i b)), (5, .int (nI j))] [] := by
    intro k
    induction k using Nat.strongRecOn with
    | _ k ih =>
      intro j M1 b hk se hb
      have hM1 := hM.SE se
      cases b
      · show Z X M1 0 0 6 [(0, .ref m), (1, .int (nI f)), (2, .long w), (4, .int 0), (5, .int (nI j))] []
        refine z_iload g dX11_isFormNow_6 rfl ?_
        refine z_iconst (v := 4) g dX11_isFormNow_8 (by decide) ?_
        rw [show (4 : Int32) = nI 4 from rfl]
        refine z_icmp_ge (tgt := 50) g dX11_isFormNow_9 (by decide) (fun c_x => ?_) (fun c_x => ?_)
        · rw [nI_leI (by omega) (by omega)] at c_x
          have hz : frL S f w 4 = false := by rw [show 4 = j by omega, hb]
          refine z_iload g dX11_isFormNow_50 rfl ?_
          exact z_iret g hrt (by decide) (by decide) (by decide) dX11_isFormNow_52 ⟨by rw [hz]; rfl, se⟩
        have h25 : j < 4 := by rw [nI_leI (by omega) (by omega)] at c_x; omega
        refine z_iload g dX11_isFormNow_12 rfl ?_
        refine z_if_ne (tgt := 37) g dX11_isFormNow_14 (by decide) (fun c_14 => absurd c_14 (by decide)) (fun _ => ?_)
        refine z_aload_n g dX11_isFormNow_17 rfl ?_
        refine z_iload_n g dX11_isFormNow_18 rfl ?_
        refine z_iload g dX11_isFormNow_19 rfl ?_
        refine z_aload_n g dX11_isFormNow_21 rfl ?_
        refine z_getI g fl_X11_238 hM1.k0 (by decide) rfl dX11_isFormNow_22 ?_
        rw [hM1.sc (k := 1) (by decide) (by decide)]
        refine z_aload_n g dX11_isFormNow_25 rfl ?_
        refine z_getI g fl_X11_238 hM1.k0 (by decide) rfl dX11_isFormNow_26 ?_
        rw [hM1.sc (k := 1) (by decide) (by decide)]
        refine z_callV g _ _ cv_X11_260 (n_frm _ M1 hM1 hO f (nI j) (gi S 1) (gi S 1)) hM1.k0 (by decide) rfl (by rw [hR]; decide) (by rw [hR]; decide) (by rw [hR]; decide) (Nat.le_of_ble_eq_true rfl) rfl dX11_isFormNow_29 (fun _ _ h => False.elim h) (fun r_29 M_29 h_29 => ?_)
        obtain ⟨rfl, se2⟩ := h_29
        have hM2 := hM1.SE se2
        refine z_lload_n g dX11_isFormNow_32 rfl ?_
        refine z_lcmp g dX11_isFormNow_33 ?_
        refine z_if_ne (tgt := 41) g dX11_isFormNow_34 (by decide) (fun c_34 => ?_) (fun c_34 => ?_)
        · refine z_iconst (v := 0) g dX11_isFormNow_41 (by decide) ?_
          refine z_istore g dX11_isFormNow_42 (by rw [hN]; decide) ?_
          refine z_iinc1 g dX11_isFormNow_44 rfl (by rw [hN]; decide) ?_
          refine z_goto (tgt := 6) g dX11_isFormNow_47 (by decide) ?_
          rw [nI_s]
          have hcc := eq_false (fun z => c_34 ((lg_cmp_eq _ _).mpr z))
          have hstep : frL S f w (j + 1) = false := by
            rw [frL, hb]
            simp [hcc]
          exact z_to (ih (k - 1) (by omega) (j + 1) _ false (by omega) (se.tr se2) hstep) ⟨rfl, rfl, rfl, rfl, rfl, trivial⟩
        · refine z_iconst (v := 1) g dX11_isFormNow_37 (by decide) ?_
          refine z_goto (tgt := 42) g dX11_isFormNow_38 (by decide) ?_
          refine z_istore g dX11_isFormNow_42 (by rw [hN]; decide) ?_
          refine z_iinc1 g dX11_isFormNow_44 rfl (by rw [hN]; decide) ?_
          refine z_goto (tgt := 6) g dX11_isFormNow_47 (by decide) ?_
          rw [nI_s]
          have hcc := eq_true ((lg_cmp_eq _ _).mp c_34)
          have hstep : frL S f w (j + 1) = true := by
            rw [frL, hb]
            simp [hcc]
          exact z_to (ih (k - 1) (by omega) (j + 1) _ true (by omega) (se.tr se2) hstep) ⟨rfl, rfl, rfl, rfl, rfl, trivial⟩
      · show Z X M1 0 0 6 [(0, .ref m), (1, .int (nI f)), (2, .long w), (4, .int 1), (5, .int (nI j))] []
        refine z_iload g dX11_isFormNow_6 rfl ?_
        refine z_iconst (v := 4) g dX11_isFormNow_8 (by decide) ?_
        rw [show (4 : Int32) = nI 4 from rfl]
        refine z_icmp_ge (tgt := 50) g dX11_isFormNow_9 (by decide) (fun c_x => ?_) (fun c_x => ?_)
        · rw [nI_leI (by omega) (by omega)] at c_x
          have hz : frL S f w 4 = true := by rw [show 4 = j by omega, hb]
          refine z_iload g dX11_isFormNow_50 rfl ?_
          exact z_iret g hrt (by decide) (by decide) (by decide) dX11_isFormNow_52 ⟨by rw [hz]; rfl, se⟩
        have h25 : j < 4 := by rw [nI_leI (by omega) (by omega)] at c_x; omega
        refine z_iload g dX11_isFormNow_12 rfl ?_
        refine z_if_ne (tgt := 37) g dX11_isFormNow_14 (by decide) (fun _ => ?_) (fun c_14 => absurd c_14 (by decide))
        refine z_iconst (v := 1) g dX11_isFormNow_37 (by decide) ?_
        refine z_goto (tgt := 42) g dX11_isFormNow_38 (by decide) ?_
        refine z_istore g dX11_isFormNow_42 (by rw [hN]; decide) ?_
        refine z_iinc1 g dX11_isFormNow_44 rfl (by rw [hN]; decide) ?_
        refine z_goto (tgt := 6) g dX11_isFormNow_47 (by decide) ?_
        rw [nI_s]
        have hstep : frL S f w (j + 1) = true := by
          rw [frL, hb]
          rfl
        exact z_to (ih (k - 1) (by omega) (j + 1) _ true (by omega) se hstep) ⟨rfl, rfl, rfl, rfl, rfl, trivial⟩
  refine z_iconst (v := 0) g dX11_isFormNow_0 (by decide) ?_
  refine z_istore g dX11_isFormNow_1 (by rw [hN]; decide) ?_
  refine z_iconst (v := 0) g dX11_isFormNow_3 (by decide) ?_
  refine z_istore g dX11_isFormNow_4 (by rw [hN]; decide) ?_
  exact z_to (loop _ 0 M false rfl SE.rf rfl) ⟨rfl, rfl, rfl, rfl, rfl, trivial⟩
set_option maxHeartbeats 4000000 in
set_option maxRecDepth 100000 in
theorem n_wtl (E : Ev) {A : Nat → Nat} {m : Nat} {S : Ms} (M : Mm) (hM : RM A m S M) (hC : gi S 17 = nI (cn S 17)) (hB : cn S 17 ≤ 100) (f : Nat) (w : Int64) : CT E yX11_wasTold cX11_wasTold 6 (some .boolean) 2 0 0 [.ref m, .int (nI f), .long w] M (ansI (b2i (wtL S f w (cn S 17))) M) noX := by
  refine CT.of rfl (Nat.le_of_ble_eq_true rfl) (fun X g hrt hno hE hN hR hI => ?_)
  subst hE
  have loop : ∀ (k j : Nat) (b : Bool) (hk : k + j = (cn S 17)) (hb : wtL S f w j = b), Z X M 0 0 6 [(0, .ref m), (1, .int (nI f)), (2, .long w), (4, .int (b2i b)), (5, .int (nI j))] [] := by
    intro k
    induction k using Nat.strongRecOn with
    | _ k ih =>
      intro j b hk hb
      have hM1 := hM
      cases b
      · show Z X M 0 0 6 [(0, .ref m), (1, .int (nI f)), (2, .long w), (4, .int 0), (5, .int (nI j))] []
        refine z_iload g dX11_wasTold_6 rfl ?_
        refine z_aload_n g dX11_wasTold_8 rfl ?_
        refine z_getI g fl_X11_201 hM1.k0 (by decide) rfl dX11_wasTold_9 ?_
        rw [hM1.sc (k := 17) (by decide) (by decide)]
        rw [hC]
        refine z_icmp_ge (tgt := 56) g dX11_wasTold_12 (by decide) (fun c_x => ?_) (fun c_x => ?_)
        · rw [nI_leI (by omega) (by omega)] at c_x
          have hz : wtL S f w (cn S 17) = false := by rw [show (cn S 17) = j by omega, hb]
          refine z_iload g dX11_wasTold_56 rfl ?_
          exact z_iret g hrt (by decide) (by decide) (by decide) dX11_wasTold_58 ⟨by rw [hz]; rfl, rfl⟩
        have h25 : j < (cn S 17) := by rw [nI_leI (by omega) (by omega)] at c_x; omega
        refine z_iload g dX11_wasTold_15 rfl ?_
        refine z_if_ne (tgt := 43) g dX11_wasTold_17 (by decide) (fun c_17 => absurd c_17 (by decide)) (fun _ => ?_)
        refine z_aload_n g dX11_wasTold_20 rfl ?_
        refine z_getR g fl_X11_52 hM1.k0 (by decide) rfl (hM1.ref (k := 18) (by decide)) dX11_wasTold_21 ?_
        refine z_iload g dX11_wasTold_24 rfl ?_
        refine z_ialdk g (hM1.kA1 (k := 18) (by decide)) (by decide) (vp_in_nI (by rw [hM1.lnI (k := 18) (by decide)]; show _ < 100; omega) (by rw [hM1.lnI (k := 18) (by decide)]; decide)) dX11_wasTold_26 ?_
        rw [nI_clamp (by omega), hM1.row (k := 18) (by decide) (by decide)]
        refine z_iload_n g dX11_wasTold_27 rfl ?_
        refine z_icmp_ne (tgt := 47) g dX11_wasTold_28 (by decide) (fun c_28 => ?_) (fun c_28 => ?_)
        · refine z_iconst (v := 0) g dX11_wasTold_47 (by decide) ?_
          refine z_istore g dX11_wasTold_48 (by rw [hN]; decide) ?_
          refine z_iinc1 g dX11_wasTold_50 rfl (by rw [hN]; decide) ?_
          refine z_goto (tgt := 6) g dX11_wasTold_53 (by decide) ?_
          rw [nI_s]
          have hstep : wtL S f w (j + 1) = false := by
            rw [wtL, hb]
            simp [eq_false c_28]
          exact z_to (ih (k - 1) (by omega) (j + 1) false (by omega) hstep) ⟨rfl, rfl, rfl, rfl, rfl, trivial⟩
        · refine z_aload_n g dX11_wasTold_31 rfl ?_
          refine z_getR g fl_X11_58 hM1.k0 (by decide) rfl (hM1.refL (k := 20) (by decide)) dX11_wasTold_32 ?_
          refine z_iload g dX11_wasTold_35 rfl ?_
          refine z_laldk g (hM1.kL1 (k := 20) (by decide)) (by decide) (vp_in_nI (by rw [hM1.lnL (k := 20) (by decide)]; show _ < 100; omega) (by rw [hM1.lnL (k := 20) (by decide)]; decide)) dX11_wasTold_37 ?_
          rw [nI_clamp (by omega), hM1.rowL (k := 20) (by decide)]
          refine z_lload_n g dX11_wasTold_38 rfl ?_
          refine z_lcmp g dX11_wasTold_39 ?_
          refine z_if_ne (tgt := 47) g dX11_wasTold_40 (by decide) (fun c_40 => ?_) (fun c_40 => ?_)
          · refine z_iconst (v := 0) g dX11_wasTold_47 (by decide) ?_
            refine z_istore g dX11_wasTold_48 (by rw [hN]; decide) ?_
            refine z_iinc1 g dX11_wasTold_50 rfl (by rw [hN]; decide) ?_
            refine z_goto (tgt := 6) g dX11_wasTold_53 (by decide) ?_
            rw [nI_s]
            have hcc := eq_false (fun z => c_40 ((lg_cmp_eq _ _).mpr z))
            have hstep : wtL S f w (j + 1) = false := by
              rw [wtL, hb]
              simp [eq_true c_28, hcc]
            exact z_to (ih (k - 1) (by omega) (j + 1) false (by omega) hstep) ⟨rfl, rfl, rfl, rfl, rfl, trivial⟩
          · refine z_iconst (v := 1) g dX11_wasTold_43 (by decide) ?_
            refine z_goto (tgt := 48) g dX11_wasTold_44 (by decide) ?_
            refine z_istore g dX11_wasTold_48 (by rw [hN]; decide) ?_
            refine z_iinc1 g dX11_wasTold_50 rfl (by rw [hN]; decide) ?_
            refine z_goto (tgt := 6) g dX11_wasTold_53 (by decide) ?_
            rw [nI_s]
            have hcc := eq_true ((lg_cmp_eq _ _).mp c_40)
            have hstep : wtL S f w (j + 1) = true := by
              rw [wtL, hb]
              simp [eq_true c_28, hcc]
            exact z_to (ih (k - 1) (by omega) (j + 1) true (by omega) hstep) ⟨rfl, rfl, rfl, rfl, rfl, trivial⟩
      · show Z X M 0 0 6 [(0, .ref m), (1, .int (nI f)), (2, .long w), (4, .int 1), (5, .int (nI j))] []
        refine z_iload g dX11_wasTold_6 rfl ?_
        refine z_aload_n g dX11_wasTold_8 rfl ?_
        refine z_getI g fl_X11_201 hM1.k0 (by decide) rfl dX11_wasTold_9 ?_
        rw [hM1.sc (k := 17) (by decide) (by decide)]
        rw [hC]
        refine z_icmp_ge (tgt := 56) g dX11_wasTold_12 (by decide) (fun c_x => ?_) (fun c_x => ?_)
        · rw [nI_leI (by omega) (by omega)] at c_x
          have hz : wtL S f w (cn S 17) = true := by rw [show (cn S 17) = j by omega, hb]
          refine z_iload g dX11_wasTold_56 rfl ?_
          exact z_iret g hrt (by decide) (by decide) (by decide) dX11_wasTold_58 ⟨by rw [hz]; rfl, rfl⟩
        have h25 : j < (cn S 17) := by rw [nI_leI (by omega) (by omega)] at c_x; omega
        refine z_iload g dX11_wasTold_15 rfl ?_
        refine z_if_ne (tgt := 43) g dX11_wasTold_17 (by decide) (fun _ => ?_) (fun c_17 => absurd c_17 (by decide))
        refine z_iconst (v := 1) g dX11_wasTold_43 (by decide) ?_
        refine z_goto (tgt := 48) g dX11_wasTold_44 (by decide) ?_
        refine z_istore g dX11_wasTold_48 (by rw [hN]; decide) ?_
        refine z_iinc1 g dX11_wasTold_50 rfl (by rw [hN]; decide) ?_
        refine z_goto (tgt := 6) g dX11_wasTold_53 (by decide) ?_
        rw [nI_s]
        have hstep : wtL S f w (j + 1) = true := by
          rw [wtL, hb]
          rfl
        exact z_to (ih (k - 1) (by omega) (j + 1) true (by omega) hstep) ⟨rfl, rfl, rfl, rfl, rfl, trivial⟩
  refine z_iconst (v := 0) g dX11_wasTold_0 (by decide) ?_
  refine z_istore g dX11_wasTold_1 (by rw [hN]; decide) ?_
  refine z_iconst (v := 0) g dX11_wasTold_3 (by decide) ?_
  refine z_istore g dX11_wasTold_4 (by rw [hN]; decide) ?_
  exact z_to (loop _ 0 false rfl rfl) ⟨rfl, rfl, rfl, rfl, rfl, trivial⟩
set_option maxHeartbeats 4000000 in
set_option maxRecDepth 100000 in
theorem n_rnk (E : Ev) {A : Nat → Nat} {m : Nat} {S : Ms} (M : Mm) (hM : RM A m S M) (hV : INV S) (f : Nat) (hf : f < cn S 2) (w : Int64) (x y : Int32) : CT E yX11_rankOf cX11_rankOf 7 (some .int) 5 0 0 [.ref m, .int (nI f), .long w, .int x, .int y] M ((fun r' M' => r' = some (.int (rkA S w x y f)) ∧ SE A m M M')) noX := by
  refine CT.of rfl (Nat.le_of_ble_eq_true rfl) (fun X g hrt hno hE hN hR hI => ?_)
  subst hE
  obtain ⟨-, v2, v17, -⟩ := hV.1
  refine z_aload_n g dX11_rankOf_0 rfl ?_
  refine z_iload_n g dX11_rankOf_1 rfl ?_
  refine z_lload_n g dX11_rankOf_2 rfl ?_
  refine z_callV g _ _ cv_X11_328 (n_fnw _ M hM hV.OkF f w) hM.k0 (by decide) rfl (by rw [hR]; decide) (by rw [hR]; decide) (by rw [hR]; decide) (Nat.le_of_ble_eq_true rfl) rfl dX11_rankOf_3 (fun _ _ h => False.elim h) (fun r_3 M_3 h_3 => ?_)
  obtain ⟨rfl, se⟩ := h_3
  have hM1 := hM.SE se
  refine z_istore g dX11_rankOf_6 (by rw [hN]; decide) ?_
  refine z_iload g dX11_rankOf_8 rfl ?_
  refine z_if_ne (tgt := 22) g dX11_rankOf_10 (by decide) (fun c_10 => ?_) (fun c_10 => ?_)
  · first | rw [b2i_0] at c_10 | rw [b2i_n0] at c_10 | skip
    refine z_iload g dX11_rankOf_22 rfl ?_
    refine z_if_eq (tgt := 31) g dX11_rankOf_24 (by decide) (fun c_24 => ?_) (fun c_24 => ?_)
    · first | rw [b2i_0] at c_24 | rw [b2i_n0] at c_24 | skip
      refine z_ldcw g dX11_rankOf_31 kc_X11_335 ?_
      refine z_bipush (v := 100) g dX11_rankOf_34 (by decide) ?_
      refine z_aload_n g dX11_rankOf_36 rfl ?_
      refine z_iload_n g dX11_rankOf_37 rfl ?_
      refine z_iload g dX11_rankOf_38 rfl ?_
      refine z_iload g dX11_rankOf_40 rfl ?_
      refine z_callV g _ _ cv_X11_315 (n_awy _ M_3 hM1 hV f hf x y) hM1.k0 (by decide) rfl (by rw [hR]; decide) (by rw [hR]; decide) (by rw [hR]; decide) (Nat.le_of_ble_eq_true rfl) rfl dX11_rankOf_42 (fun _ _ h => False.elim h) (fun r_42 M_42 h_42 => ?_)
      obtain ⟨rfl, rfl⟩ := h_42
      refine z_imul g dX11_rankOf_45 ?_
      refine z_iadd g dX11_rankOf_46 ?_
      refine z_iload_n g dX11_rankOf_47 rfl ?_
      refine z_iadd g dX11_rankOf_48 ?_
      refine z_goto (tgt := 53) g dX11_rankOf_49 (by decide) ?_
      exact z_iret g hrt rfl (by decide) (by decide) dX11_rankOf_53 ⟨by first | exact absurd c_24 c_10 | exact absurd c_10 c_24 | (rw [rkA]; simp [c_10, c_24]), se⟩
    · first | rw [b2i_0] at c_24 | rw [b2i_n0] at c_24 | skip
      refine z_iconst (v := 0) g dX11_rankOf_27 (by decide) ?_
      refine z_goto (tgt := 34) g dX11_rankOf_28 (by decide) ?_
      refine z_bipush (v := 100) g dX11_rankOf_34 (by decide) ?_
      refine z_aload_n g dX11_rankOf_36 rfl ?_
      refine z_iload_n g dX11_rankOf_37 rfl ?_
      refine z_iload g dX11_rankOf_38 rfl ?_
      refine z_iload g dX11_rankOf_40 rfl ?_
      refine z_callV g _ _ cv_X11_315 (n_awy _ M_3 hM1 hV f hf x y) hM1.k0 (by decide) rfl (by rw [hR]; decide) (by rw [hR]; decide) (by rw [hR]; decide) (Nat.le_of_ble_eq_true rfl) rfl dX11_rankOf_42 (fun _ _ h => False.elim h) (fun r_42 M_42 h_42 => ?_)
      obtain ⟨rfl, rfl⟩ := h_42
      refine z_imul g dX11_rankOf_45 ?_
      refine z_iadd g dX11_rankOf_46 ?_
      refine z_iload_n g dX11_rankOf_47 rfl ?_
      refine z_iadd g dX11_rankOf_48 ?_
      refine z_goto (tgt := 53) g dX11_rankOf_49 (by decide) ?_
      exact z_iret g hrt rfl (by decide) (by decide) dX11_rankOf_53 ⟨by first | exact absurd c_24 c_10 | exact absurd c_10 c_24 | (rw [rkA]; simp [c_10, c_24]), se⟩
  · first | rw [b2i_0] at c_10 | rw [b2i_n0] at c_10 | skip
    refine z_aload_n g dX11_rankOf_13 rfl ?_
    refine z_iload_n g dX11_rankOf_14 rfl ?_
    refine z_lload_n g dX11_rankOf_15 rfl ?_
    refine z_callV g _ _ cv_X11_332 (n_wtl _ M_3 hM1 v17.1 v17.2 f w) hM1.k0 (by decide) rfl (by rw [hR]; decide) (by rw [hR]; decide) (by rw [hR]; decide) (Nat.le_of_ble_eq_true rfl) rfl dX11_rankOf_16 (fun _ _ h => False.elim h) (fun r_16 M_16 h_16 => ?_)
    obtain ⟨rfl, rfl⟩ := h_16
    refine z_if_eq (tgt := 52) g dX11_rankOf_19 (by decide) (fun c_19 => ?_) (fun c_19 => ?_)
    · first | rw [b2i_0] at c_19 | rw [b2i_n0] at c_19 | skip
      refine z_iconst (v := (-1)) g dX11_rankOf_52 (by decide) ?_
      exact z_iret g hrt rfl (by decide) (by decide) dX11_rankOf_53 ⟨by first | exact absurd c_24 c_10 | exact absurd c_10 c_24 | (rw [rkA]; simp [c_10, c_19]), se⟩
    · first | rw [b2i_0] at c_19 | rw [b2i_n0] at c_19 | skip
      refine z_iload g dX11_rankOf_22 rfl ?_
      refine z_if_eq (tgt := 31) g dX11_rankOf_24 (by decide) (fun c_24 => ?_) (fun c_24 => ?_)
      · first | rw [b2i_0] at c_24 | rw [b2i_n0] at c_24 | skip
        refine z_ldcw g dX11_rankOf_31 kc_X11_335 ?_
        refine z_bipush (v := 100) g dX11_rankOf_34 (by decide) ?_
        refine z_aload_n g dX11_rankOf_36 rfl ?_
        refine z_iload_n g dX11_rankOf_37 rfl ?_
        refine z_iload g dX11_rankOf_38 rfl ?_
        refine z_iload g dX11_rankOf_40 rfl ?_
        refine z_callV g _ _ cv_X11_315 (n_awy _ M_3 hM1 hV f hf x y) hM1.k0 (by decide) rfl (by rw [hR]; decide) (by rw [hR]; decide) (by rw [hR]; decide) (Nat.le_of_ble_eq_true rfl) rfl dX11_rankOf_42 (fun _ _ h => False.elim h) (fun r_42 M_42 h_42 => ?_)
        obtain ⟨rfl, rfl⟩ := h_42
        refine z_imul g dX11_rankOf_45 ?_
        refine z_iadd g dX11_rankOf_46 ?_
        refine z_iload_n g dX11_rankOf_47 rfl ?_
        refine z_iadd g dX11_rankOf_48 ?_
        refine z_goto (tgt := 53) g dX11_rankOf_49 (by decide) ?_
        exact z_iret g hrt rfl (by decide) (by decide) dX11_rankOf_53 ⟨by first | exact absurd c_24 c_10 | exact absurd c_10 c_24 | (rw [rkA]; simp [c_10, c_19, c_24]), se⟩
      · first | rw [b2i_0] at c_24 | rw [b2i_n0] at c_24 | skip
        refine z_iconst (v := 0) g dX11_rankOf_27 (by decide) ?_
        refine z_goto (tgt := 34) g dX11_rankOf_28 (by decide) ?_
        refine z_bipush (v := 100) g dX11_rankOf_34 (by decide) ?_
        refine z_aload_n g dX11_rankOf_36 rfl ?_
        refine z_iload_n g dX11_rankOf_37 rfl ?_
        refine z_iload g dX11_rankOf_38 rfl ?_
        refine z_iload g dX11_rankOf_40 rfl ?_
        refine z_callV g _ _ cv_X11_315 (n_awy _ M_3 hM1 hV f hf x y) hM1.k0 (by decide) rfl (by rw [hR]; decide) (by rw [hR]; decide) (by rw [hR]; decide) (Nat.le_of_ble_eq_true rfl) rfl dX11_rankOf_42 (fun _ _ h => False.elim h) (fun r_42 M_42 h_42 => ?_)
        obtain ⟨rfl, rfl⟩ := h_42
        refine z_imul g dX11_rankOf_45 ?_
        refine z_iadd g dX11_rankOf_46 ?_
        refine z_iload_n g dX11_rankOf_47 rfl ?_
        refine z_iadd g dX11_rankOf_48 ?_
        refine z_goto (tgt := 53) g dX11_rankOf_49 (by decide) ?_
        exact z_iret g hrt rfl (by decide) (by decide) dX11_rankOf_53 ⟨by first | exact absurd c_24 c_10 | exact absurd c_10 c_24 | (rw [rkA]; simp [c_10, c_19, c_24]), se⟩
theorem rkA_wi0 (S : Ms) (v : Int32) : rkA (wi S 0 v) = rkA S := by
  funext w x y f
  have e1 : ∀ n, frL (wi S 0 v) f w n = frL S f w n := by
    intro n
    induction n with
    | zero => rfl
    | succ n ih => rw [frL, frL, ih, formA_wi0]; rfl
  have e2 : ∀ n, wtL (wi S 0 v) f w n = wtL S f w n := by
    intro n
    induction n with
    | zero => rfl
    | succ n ih => rw [wtL, wtL, ih]; rfl
  unfold rkA
  rw [e1, show cn (wi S 0 v) 17 = cn S 17 from rfl, e2]
  rfl
theorem nIge {r : Int32} (h : 0 ≤ r) : r = nI r.toNatClampNeg ∧ r.toNatClampNeg < 2 ^ 31 := by
  have h0 : (0 : Int) ≤ r.toInt := by
    have := Int32.le_iff_toInt_le.mp h
    exact this
  have h1 : r.toNatClampNeg = r.toInt.toNat := rfl
  have h2 := Int32.toInt_lt r
  refine ⟨?_, by omega⟩
  apply Int32.toInt_inj.mp
  rw [show (nI r.toNatClampNeg).toInt = (r.toNatClampNeg : Int) from Int32.toInt_ofNat_of_lt (by omega)]
  omega
set_option maxHeartbeats 4000000 in
set_option maxRecDepth 100000 in
theorem m_find (E : Ev) {A : Nat → Nat} {m : Nat} {S : Ms} (M : Mm) (hM : RM A m S M) (hV : INV S) (w : Int64) (x y r : Int32) : CT E yX11_find cX11_find 11 (some .int) 7 0 0 [.ref m, .long w, .int x, .int y, .int r] M (mAns A m (opS (cFind S w x y r) S (sFind S w x y r)) M (some (.int (opV (cFind S w x y r) (vFind S w x y r) 0)))) noX := by
  refine CT.of rfl (Nat.le_of_ble_eq_true rfl) (fun X g hrt hno hE hN hR hI => ?_)
  subst hE
  obtain ⟨v1, v2, v17, v24, v31, v36, v51, v58, v59⟩ := hV.1
  have hV0 := hV
  obtain ⟨-, vF, vN, vM, vL, vX, vP, vQ, vT, vR, vS, vO⟩ := hV
  have fr0 := FM.rf (A := A) (m := m) (M := M)
  have hf24 := v2.2
  refine z_aload_n g dX11_find_0 rfl ?_
  refine z_iload g dX11_find_1 rfl ?_
  refine z_if_ge (tgt := 10) g dX11_find_3 (by decide) (fun c_3 => ?_) (fun c_3 => ?_)
  · refine z_lload_n g dX11_find_10 rfl ?_
    refine z_bipush (v := 12) g dX11_find_11 (by decide) ?_
    refine z_callS g _ _ cs_X11_267 (n_isWd _ M w 12 (by decide)) rfl (by rw [hR]; decide) (by rw [hR]; decide) (by rw [hR]; decide) (Nat.le_of_ble_eq_true rfl) rfl dX11_find_13 (fun _ _ h => False.elim h) (fun r_13 M_13 h_13 => ?_)
    obtain ⟨rfl, rfl⟩ := h_13
    refine z_if_eq (tgt := 28) g dX11_find_16 (by decide) (fun c_16 => ?_) (fun c_16 => ?_)
    · first | rw [b2i_0] at c_16 | rw [b2i_n0] at c_16 | skip
      refine z_iconst (v := 2) g dX11_find_28 (by decide) ?_
      refine z_goto (tgt := 33) g dX11_find_29 (by decide) ?_
      have hc : cFind S w x y r = 2 := by simp [cFind, plB2, eq_true c_3, c_16]
      refine z_callV g _ _ cv_X11_234 (n_holds _ M hM fr0 2) hM.k0 (by decide) rfl (by rw [hR]; decide) (by rw [hR]; decide) (by rw [hR]; decide) (Nat.le_of_ble_eq_true rfl) rfl dX11_find_33 (fun _ _ h => False.elim h) (fun r_33 M1 h_33 => ?_)
      obtain ⟨rfl, hM1, fr1⟩ := h_33
      refine z_if_ne (tgt := 41) g dX11_find_36 (by decide) (fun c_36 => absurd c_36 (by decide)) (fun _ => ?_)
      refine z_iconst (v := 0) g dX11_find_39 (by decide) ?_
      exact z_iret g hrt rfl (by decide) (by decide) dX11_find_40 ⟨by rw [hc, opV_2], by rw [hc, opS_2]; exact hM1, fr1⟩
    · first | rw [b2i_0] at c_16 | rw [b2i_n0] at c_16 | skip
      refine z_iload_n g dX11_find_19 rfl ?_
      refine z_iload g dX11_find_20 rfl ?_
      refine z_callS g _ _ cs_X11_230 (n_isP _ M x y) rfl (by rw [hR]; decide) (by rw [hR]; decide) (by rw [hR]; decide) (Nat.le_of_ble_eq_true rfl) rfl dX11_find_22 (fun _ _ h => False.elim h) (fun r_22 M_22 h_22 => ?_)
      obtain ⟨rfl, rfl⟩ := h_22
      refine z_if_ne (tgt := 32) g dX11_find_25 (by decide) (fun c_25 => ?_) (fun c_25 => ?_)
      · first | rw [b2i_0] at c_25 | rw [b2i_n0] at c_25 | skip
        refine z_iconst (v := 0) g dX11_find_32 (by decide) ?_
        have hc : cFind S w x y r = 0 := by simp [cFind, plB2, eq_true c_3, c_16, c_25]
        refine z_callV g _ _ cv_X11_234 (n_holds _ M hM fr0 0) hM.k0 (by decide) rfl (by rw [hR]; decide) (by rw [hR]; decide) (by rw [hR]; decide) (Nat.le_of_ble_eq_true rfl) rfl dX11_find_33 (fun _ _ h => False.elim h) (fun r_33 M2 h_33 => ?_)
        obtain ⟨rfl, hM2, fr2⟩ := h_33
        refine z_if_ne (tgt := 41) g dX11_find_36 (by decide) (fun _ => ?_) (fun c_36 => absurd c_36 (by decide))
        refine z_iconst (v := (-1)) g dX11_find_41 (by decide) ?_
        refine z_istore g dX11_find_42 (by rw [hN]; decide) ?_
        refine z_iconst (v := 0) g dX11_find_44 (by decide) ?_
        refine z_istore g dX11_find_45 (by rw [hN]; decide) ?_
        obtain ⟨hre, hr31⟩ := nIge c_3
        obtain ⟨rr, hrr⟩ : ∃ rr, rr = r.toNatClampNeg := ⟨_, rfl⟩
        have hrc : r.toNatClampNeg = rr := hrr.symm
        rw [hrc] at hre hr31
        have outer : ∀ (k n : Nat) (la : Int32) (M1 : Mm) (hk : k = rr + 1 - n) (hn24 : n ≤ 24) (hnr1 : n ≤ rr + 1) (hfn : fnA (rkA S w x y) (cn S 2) n = some la) (hM1 : RM A m (wi S 0 0) M1) (fr1 : FM A m M M1), Z X M1 0 0 47 [(0, .ref m), (1, .long w), (3, .int x), (4, .int y), (5, .int (nI rr)), (6, .int la), (7, .int (nI n))] [] := by
          intro k
          induction k using Nat.strongRecOn with
          | _ k ihn =>
            intro n la M1 hk hn24 hnr1 hfn hM1 fr1
            refine z_iload g dX11_find_47 rfl ?_
            refine z_iload g dX11_find_49 rfl ?_
            refine z_icmp_gt (tgt := 134) g dX11_find_51 (by decide) (fun c_51 => ?_) (fun c_51 => ?_)
            · rw [nI_ltI (by omega) (by omega)] at c_51
              have hnr : n = rr + 1 := by omega
              refine z_iload g dX11_find_134 rfl ?_
              refine z_bipush (v := 100) g dX11_find_136 (by decide) ?_
              refine z_irem g dX11_find_138 (by decide) ?_
              exact z_iret g hrt rfl (by decide) (by decide) dX11_find_139 ⟨by rw [hc, opV_0, vFind, hrc, ← hnr, hfn], by rw [hc, opS_0]; exact hM1, fr1⟩
            have h51 : n ≤ rr := by rw [nI_ltI (by omega) (by omega)] at c_51; omega
            have after : ∀ (M1 : Mm) (hM1 : RM A m (wi S 0 0) M1) (fr1 : FM A m M M1), Z X M1 0 0 116 [(0, .ref m), (1, .long w), (3, .int x), (4, .int y), (5, .int (nI rr)), (6, .int la), (7, .int (nI n)), (8, .int (mnA (rkA S w x y) la (cn S 2)))] [] := by
              intro M1 hM1 fr1
              refine z_iload g dX11_find_116 rfl ?_
              refine z_iconst (v := (-1)) g dX11_find_118 (by decide) ?_
              refine z_icmp_ne (tgt := 124) g dX11_find_119 (by decide) (fun c_119 => ?_) (fun c_119 => ?_)
              · refine z_iload g dX11_find_124 rfl ?_
                refine z_istore g dX11_find_126 (by rw [hN]; decide) ?_
                refine z_iinc1 g dX11_find_128 rfl (by rw [hN]; decide) ?_
                refine z_goto (tgt := 47) g dX11_find_131 (by decide) ?_
                have hf2 : fnA (rkA S w x y) (cn S 2) (n + 1) = some (mnA (rkA S w x y) la (cn S 2)) := by rw [fnA, hfn]; exact if_neg c_119
                have hn2 := (fnA_n hf2).1
                have hn3 := cLe_le (rk := (rkA S w x y)) (la := mnA (rkA S w x y) la (cn S 2)) (cn S 2)
                rw [nI_s]
                exact z_to (ihn (rr + 1 - (n + 1)) (by omega) (n + 1) _ M1 rfl (by omega) (by omega) hf2 hM1 fr1) ⟨rfl, rfl, rfl, rfl, rfl, rfl, rfl, trivial⟩
              · refine z_iconst (v := (-1)) g dX11_find_122 (by decide) ?_
                exact z_iret g hrt rfl (by decide) (by decide) dX11_find_123 ⟨by rw [hc, opV_0, vFind, hrc, fnA_none (show fnA (rkA S w x y) (cn S 2) (n + 1) = none by rw [fnA, hfn]; exact if_pos c_119) (rr + 1) (by omega)], by rw [hc, opS_0]; exact hM1, fr1⟩
            have inner : ∀ (k j : Nat) (M1 : Mm) (hk : k + j = cn S 2) (hM1 : RM A m (wi S 0 0) M1) (fr1 : FM A m M M1), Z X M1 0 0 60 [(0, .ref m), (1, .long w), (3, .int x), (4, .int y), (5, .int (nI rr)), (6, .int la), (7, .int (nI n)), (8, .int (mnA (rkA S w x y) la j)), (9, .int (nI j))] [] := by
              intro k
              induction k using Nat.strongRecOn with
              | _ k ih =>
                intro j M1 hk hM1 fr1
                refine z_iload g dX11_find_60 rfl ?_
                refine z_aload_n g dX11_find_62 rfl ?_
                refine z_getI g fl_X11_186 hM1.k0 (by decide) rfl dX11_find_63 ?_
                rw [show fI _ m 2 = gi S 2 from hM1.sc (k := 2) (by decide) (by decide), v2.1]
                refine z_icmp_ge (tgt := 116) g dX11_find_66 (by decide) (fun c_66 => ?_) (fun c_66 => ?_)
                · rw [nI_leI (by omega) (by omega)] at c_66
                  rw [show j = cn S 2 by omega]
                  exact z_to (after M1 hM1 fr1) ⟨rfl, rfl, rfl, rfl, rfl, rfl, rfl, rfl, trivial⟩
                have h66 : j < cn S 2 := by rw [nI_leI (by omega) (by omega)] at c_66; omega
                refine z_aload_n g dX11_find_69 rfl ?_
                refine z_iload g dX11_find_70 rfl ?_
                refine z_lload_n g dX11_find_72 rfl ?_
                refine z_iload_n g dX11_find_73 rfl ?_
                refine z_iload g dX11_find_74 rfl ?_
                refine z_callV g _ _ cv_X11_336 (n_rnk _ M1 hM1 (INV_wi0 0 hV0) j h66 w x y) hM1.k0 (by decide) rfl (by rw [hR]; decide) (by rw [hR]; decide) (by rw [hR]; decide) (Nat.le_of_ble_eq_true rfl) rfl dX11_find_76 (fun _ _ h => False.elim h) (fun r_76 M1 h_76 => ?_)
                obtain ⟨rfl, se_76⟩ := h_76
                have hM1 := hM1.SE se_76
                have fr1 := fr1.tr se_76.FM
                rw [rkA_wi0]
                refine z_istore g dX11_find_79 (by rw [hN]; decide) ?_
                refine z_iload g dX11_find_81 rfl ?_
                refine z_iload g dX11_find_83 rfl ?_
                refine z_icmp_le (tgt := 106) g dX11_find_85 (by decide) (fun c_85 => ?_) (fun c_85 => ?_)
                · refine z_iload g dX11_find_106 rfl ?_
                  refine z_istore g dX11_find_108 (by rw [hN]; decide) ?_
                  refine z_iinc1 g dX11_find_110 rfl (by rw [hN]; decide) ?_
                  refine z_goto (tgt := 60) g dX11_find_113 (by decide) ?_
                  rw [nI_s]
                  have hs := ih (k - 1) (by omega) (j + 1) M1 (by omega) hM1 fr1
                  first
                    | (rw [show mnA (rkA S w x y) la (j + 1) = (rkA S w x y) j from if_pos ⟨c_85, by first | exact Or.inl c_91 | exact Or.inr c_98⟩] at hs
                       exact z_to hs ⟨rfl, rfl, rfl, rfl, rfl, rfl, rfl, rfl, rfl, trivial⟩)
                    | (rw [show mnA (rkA S w x y) la (j + 1) = mnA (rkA S w x y) la j from if_neg (fun z => by first | exact z.1 c_85 | exact z.2.elim c_91 (fun y => y c_98))] at hs
                       exact z_to hs ⟨rfl, rfl, rfl, rfl, rfl, rfl, rfl, rfl, rfl, trivial⟩)
                · refine z_iload g dX11_find_88 rfl ?_
                  refine z_iconst (v := (-1)) g dX11_find_90 (by decide) ?_
                  refine z_icmp_eq (tgt := 101) g dX11_find_91 (by decide) (fun c_91 => ?_) (fun c_91 => ?_)
                  · refine z_iload g dX11_find_101 rfl ?_
                    refine z_goto (tgt := 108) g dX11_find_103 (by decide) ?_
                    refine z_istore g dX11_find_108 (by rw [hN]; decide) ?_
                    refine z_iinc1 g dX11_find_110 rfl (by rw [hN]; decide) ?_
                    refine z_goto (tgt := 60) g dX11_find_113 (by decide) ?_
                    rw [nI_s]
                    have hs := ih (k - 1) (by omega) (j + 1) M1 (by omega) hM1 fr1
                    first
                      | (rw [show mnA (rkA S w x y) la (j + 1) = (rkA S w x y) j from if_pos ⟨c_85, by first | exact Or.inl c_91 | exact Or.inr c_98⟩] at hs
                         exact z_to hs ⟨rfl, rfl, rfl, rfl, rfl, rfl, rfl, rfl, rfl, trivial⟩)
                      | (rw [show mnA (rkA S w x y) la (j + 1) = mnA (rkA S w x y) la j from if_neg (fun z => by first | exact z.1 c_85 | exact z.2.elim c_91 (fun y => y c_98))] at hs
                         exact z_to hs ⟨rfl, rfl, rfl, rfl, rfl, rfl, rfl, rfl, rfl, trivial⟩)
                  · refine z_iload g dX11_find_94 rfl ?_
                    refine z_iload g dX11_find_96 rfl ?_
                    refine z_icmp_ge (tgt := 106) g dX11_find_98 (by decide) (fun c_98 => ?_) (fun c_98 => ?_)
                    · refine z_iload g dX11_find_106 rfl ?_
                      refine z_istore g dX11_find_108 (by rw [hN]; decide) ?_
                      refine z_iinc1 g dX11_find_110 rfl (by rw [hN]; decide) ?_
                      refine z_goto (tgt := 60) g dX11_find_113 (by decide) ?_
                      rw [nI_s]
                      have hs := ih (k - 1) (by omega) (j + 1) M1 (by omega) hM1 fr1
                      first
                        | (rw [show mnA (rkA S w x y) la (j + 1) = (rkA S w x y) j from if_pos ⟨c_85, by first | exact Or.inl c_91 | exact Or.inr c_98⟩] at hs
                           exact z_to hs ⟨rfl, rfl, rfl, rfl, rfl, rfl, rfl, rfl, rfl, trivial⟩)
                        | (rw [show mnA (rkA S w x y) la (j + 1) = mnA (rkA S w x y) la j from if_neg (fun z => by first | exact z.1 c_85 | exact z.2.elim c_91 (fun y => y c_98))] at hs
                           exact z_to hs ⟨rfl, rfl, rfl, rfl, rfl, rfl, rfl, rfl, rfl, trivial⟩)
                    · refine z_iload g dX11_find_101 rfl ?_
                      refine z_goto (tgt := 108) g dX11_find_103 (by decide) ?_
                      refine z_istore g dX11_find_108 (by rw [hN]; decide) ?_
                      refine z_iinc1 g dX11_find_110 rfl (by rw [hN]; decide) ?_
                      refine z_goto (tgt := 60) g dX11_find_113 (by decide) ?_
                      rw [nI_s]
                      have hs := ih (k - 1) (by omega) (j + 1) M1 (by omega) hM1 fr1
                      first
                        | (rw [show mnA (rkA S w x y) la (j + 1) = (rkA S w x y) j from if_pos ⟨c_85, by first | exact Or.inl c_91 | exact Or.inr c_98⟩] at hs
                           exact z_to hs ⟨rfl, rfl, rfl, rfl, rfl, rfl, rfl, rfl, rfl, trivial⟩)
                        | (rw [show mnA (rkA S w x y) la (j + 1) = mnA (rkA S w x y) la j from if_neg (fun z => by first | exact z.1 c_85 | exact z.2.elim c_91 (fun y => y c_98))] at hs
                           exact z_to hs ⟨rfl, rfl, rfl, rfl, rfl, rfl, rfl, rfl, rfl, trivial⟩)
            refine z_iconst (v := (-1)) g dX11_find_54 (by decide) ?_
            refine z_istore g dX11_find_55 (by rw [hN]; decide) ?_
            refine z_iconst (v := 0) g dX11_find_57 (by decide) ?_
            refine z_istore g dX11_find_58 (by rw [hN]; decide) ?_
            exact z_to (inner _ 0 M1 rfl hM1 fr1) ⟨rfl, rfl, rfl, rfl, rfl, rfl, rfl, rfl, rfl, trivial⟩
        exact z_to (outer _ 0 (-1) M2 rfl (by omega) (by omega) rfl hM2 fr2) ⟨rfl, rfl, rfl, rfl, by rw [← hre]; rfl, rfl, rfl, trivial⟩
      · first | rw [b2i_0] at c_25 | rw [b2i_n0] at c_25 | skip
        refine z_iconst (v := 2) g dX11_find_28 (by decide) ?_
        refine z_goto (tgt := 33) g dX11_find_29 (by decide) ?_
        have hc : cFind S w x y r = 2 := by simp [cFind, plB2, eq_true c_3, c_16, c_25]
        refine z_callV g _ _ cv_X11_234 (n_holds _ M hM fr0 2) hM.k0 (by decide) rfl (by rw [hR]; decide) (by rw [hR]; decide) (by rw [hR]; decide) (Nat.le_of_ble_eq_true rfl) rfl dX11_find_33 (fun _ _ h => False.elim h) (fun r_33 M3 h_33 => ?_)
        obtain ⟨rfl, hM3, fr3⟩ := h_33
        refine z_if_ne (tgt := 41) g dX11_find_36 (by decide) (fun c_36 => absurd c_36 (by decide)) (fun _ => ?_)
        refine z_iconst (v := 0) g dX11_find_39 (by decide) ?_
        exact z_iret g hrt rfl (by decide) (by decide) dX11_find_40 ⟨by rw [hc, opV_2], by rw [hc, opS_2]; exact hM3, fr3⟩
  · refine z_iconst (v := 1) g dX11_find_6 (by decide) ?_
    refine z_goto (tgt := 33) g dX11_find_7 (by decide) ?_
    have hc : cFind S w x y r = 1 := by simp [cFind, plB2, eq_false c_3]
    refine z_callV g _ _ cv_X11_234 (n_holds _ M hM fr0 1) hM.k0 (by decide) rfl (by rw [hR]; decide) (by rw [hR]; decide) (by rw [hR]; decide) (Nat.le_of_ble_eq_true rfl) rfl dX11_find_33 (fun _ _ h => False.elim h) (fun r_33 M4 h_33 => ?_)
    obtain ⟨rfl, hM4, fr4⟩ := h_33
    refine z_if_ne (tgt := 41) g dX11_find_36 (by decide) (fun c_36 => absurd c_36 (by decide)) (fun _ => ?_)
    refine z_iconst (v := 0) g dX11_find_39 (by decide) ?_
    exact z_iret g hrt rfl (by decide) (by decide) dX11_find_40 ⟨by rw [hc, opV_1], by rw [hc, opS_1]; exact hM4, fr4⟩
