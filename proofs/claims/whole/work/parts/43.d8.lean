/-! ===== the model: names and petitions told, votes, protests, deciding, appeals (printed by gen/mod_d8.py) ===== -/
set_option maxHeartbeats 4000000 in
set_option maxRecDepth 100000 in
theorem m_name (E : Ev) {A : Nat → Nat} {m : Nat} {S : Ms} (M : Mm) (hM : RM A m S M) (hV : INV S) (f t : Int32) (w : Int64) (d : Int32) : CT E yX11_name cX11_name 8 (some .int) 6 0 0 [.ref m, .int f, .int t, .long w, .int d] M (mAns A m (opS (cName S f t w d) S (sName S f t w d)) M (some (.int (opV (cName S f t w d) (vName S f t w d) 0)))) noX := by
  refine CT.of rfl (Nat.le_of_ble_eq_true rfl) (fun X g hrt hno hE hN hR hI => ?_)
  subst hE
  obtain ⟨v1, v2, v17, v24, v31, v36, v51, v58, v59⟩ := hV.1
  have hV0 := hV
  obtain ⟨-, vF, vN, vM, vL, vX, vP, vQ, vT, vR, vS, vO⟩ := hV
  have fr0 := FM.rf (A := A) (m := m) (M := M)
  rcases inN (n := cn S 2) (by have := v2.2; omega) f with hF | ⟨j, hj, rfl, hF⟩
  · rw [← v2.1] at hF
    refine z_aload_n g dX11_name_0 rfl ?_
    refine z_iload_n g dX11_name_1 rfl ?_
    refine z_callV g _ _ cv_X11_245 (n_isF _ M hM f) hM.k0 (by decide) rfl (by rw [hR]; decide) (by rw [hR]; decide) (by rw [hR]; decide) (Nat.le_of_ble_eq_true rfl) rfl dX11_name_2 (fun _ _ h => False.elim h) (fun r_2 M_2 h_2 => ?_)
    obtain ⟨rfl, rfl⟩ := h_2
    rw [hF]
    refine z_if_eq (tgt := 19) g dX11_name_5 (by decide) (fun _ => ?_) (fun c_5 => absurd c_5 (by decide))
    refine z_iconst (v := 0) g dX11_name_19 (by decide) ?_
    refine z_istore g dX11_name_20 (by rw [hN]; decide) ?_
    refine z_lload_n g dX11_name_22 rfl ?_
    refine z_bipush (v := 8) g dX11_name_23 (by decide) ?_
    refine z_callS g _ _ cs_X11_267 (n_isWd _ M w 8 (by decide)) rfl (by rw [hR]; decide) (by rw [hR]; decide) (by rw [hR]; decide) (Nat.le_of_ble_eq_true rfl) rfl dX11_name_25 (fun _ _ h => False.elim h) (fun r_25 M_25 h_25 => ?_)
    obtain ⟨rfl, rfl⟩ := h_25
    refine z_if_eq (tgt := 43) g dX11_name_28 (by decide) (fun c_28 => ?_) (fun c_28 => ?_)
    · first | rw [b2i_0] at c_28 | rw [b2i_n0] at c_28 | skip
      refine z_iconst (v := 0) g dX11_name_43 (by decide) ?_
      refine z_istore g dX11_name_44 (by rw [hN]; decide) ?_
      refine z_aload_n g dX11_name_46 rfl ?_
      refine z_iload g dX11_name_47 rfl ?_
      refine z_if_ne (tgt := 56) g dX11_name_49 (by decide) (fun c_49 => absurd c_49 (by decide)) (fun _ => ?_)
      refine z_iconst (v := 1) g dX11_name_52 (by decide) ?_
      refine z_goto (tgt := 91) g dX11_name_53 (by decide) ?_
      have hc : cName S f t w d = 1 := by simp [cName, isF, hF, c_28]
      refine z_callV g _ _ cv_X11_234 (n_holds _ M hM fr0 1) hM.k0 (by decide) rfl (by rw [hR]; decide) (by rw [hR]; decide) (by rw [hR]; decide) (Nat.le_of_ble_eq_true rfl) rfl dX11_name_91 (fun _ _ h => False.elim h) (fun r_91 M1 h_91 => ?_)
      obtain ⟨rfl, hM1, fr1⟩ := h_91
      refine z_if_ne (tgt := 99) g dX11_name_94 (by decide) (fun c_94 => absurd c_94 (by decide)) (fun _ => ?_)
      refine z_iconst (v := 0) g dX11_name_97 (by decide) ?_
      exact z_iret g hrt rfl (by decide) (by decide) dX11_name_98 ⟨by rw [hc, opV_1], by rw [hc, opS_1]; exact hM1, fr1⟩
    · first | rw [b2i_0] at c_28 | rw [b2i_n0] at c_28 | skip
      refine z_iload g dX11_name_31 rfl ?_
      refine z_callS g _ _ cs_X11_248 (n_isD _ M d) rfl (by rw [hR]; decide) (by rw [hR]; decide) (by rw [hR]; decide) (Nat.le_of_ble_eq_true rfl) rfl dX11_name_33 (fun _ _ h => False.elim h) (fun r_33 M_33 h_33 => ?_)
      obtain ⟨rfl, rfl⟩ := h_33
      refine z_if_eq (tgt := 43) g dX11_name_36 (by decide) (fun c_36 => ?_) (fun c_36 => ?_)
      · first | rw [b2i_0] at c_36 | rw [b2i_n0] at c_36 | skip
        refine z_iconst (v := 0) g dX11_name_43 (by decide) ?_
        refine z_istore g dX11_name_44 (by rw [hN]; decide) ?_
        refine z_aload_n g dX11_name_46 rfl ?_
        refine z_iload g dX11_name_47 rfl ?_
        refine z_if_ne (tgt := 56) g dX11_name_49 (by decide) (fun c_49 => absurd c_49 (by decide)) (fun _ => ?_)
        refine z_iconst (v := 1) g dX11_name_52 (by decide) ?_
        refine z_goto (tgt := 91) g dX11_name_53 (by decide) ?_
        have hc : cName S f t w d = 1 := by simp [cName, isF, hF, c_28, c_36]
        refine z_callV g _ _ cv_X11_234 (n_holds _ M hM fr0 1) hM.k0 (by decide) rfl (by rw [hR]; decide) (by rw [hR]; decide) (by rw [hR]; decide) (Nat.le_of_ble_eq_true rfl) rfl dX11_name_91 (fun _ _ h => False.elim h) (fun r_91 M2 h_91 => ?_)
        obtain ⟨rfl, hM2, fr2⟩ := h_91
        refine z_if_ne (tgt := 99) g dX11_name_94 (by decide) (fun c_94 => absurd c_94 (by decide)) (fun _ => ?_)
        refine z_iconst (v := 0) g dX11_name_97 (by decide) ?_
        exact z_iret g hrt rfl (by decide) (by decide) dX11_name_98 ⟨by rw [hc, opV_1], by rw [hc, opS_1]; exact hM2, fr2⟩
      · first | rw [b2i_0] at c_36 | rw [b2i_n0] at c_36 | skip
        refine z_iconst (v := 1) g dX11_name_39 (by decide) ?_
        refine z_goto (tgt := 44) g dX11_name_40 (by decide) ?_
        refine z_istore g dX11_name_44 (by rw [hN]; decide) ?_
        refine z_aload_n g dX11_name_46 rfl ?_
        refine z_iload g dX11_name_47 rfl ?_
        refine z_if_ne (tgt := 56) g dX11_name_49 (by decide) (fun c_49 => absurd c_49 (by decide)) (fun _ => ?_)
        refine z_iconst (v := 1) g dX11_name_52 (by decide) ?_
        refine z_goto (tgt := 91) g dX11_name_53 (by decide) ?_
        have hc : cName S f t w d = 1 := by simp [cName, isF, hF, c_28, c_36]
        refine z_callV g _ _ cv_X11_234 (n_holds _ M hM fr0 1) hM.k0 (by decide) rfl (by rw [hR]; decide) (by rw [hR]; decide) (by rw [hR]; decide) (Nat.le_of_ble_eq_true rfl) rfl dX11_name_91 (fun _ _ h => False.elim h) (fun r_91 M3 h_91 => ?_)
        obtain ⟨rfl, hM3, fr3⟩ := h_91
        refine z_if_ne (tgt := 99) g dX11_name_94 (by decide) (fun c_94 => absurd c_94 (by decide)) (fun _ => ?_)
        refine z_iconst (v := 0) g dX11_name_97 (by decide) ?_
        exact z_iret g hrt rfl (by decide) (by decide) dX11_name_98 ⟨by rw [hc, opV_1], by rw [hc, opS_1]; exact hM3, fr3⟩
  · rw [← v2.1] at hF
    have hj24 : j < 24 := by have := v2.2; omega
    refine z_aload_n g dX11_name_0 rfl ?_
    refine z_iload_n g dX11_name_1 rfl ?_
    refine z_callV g _ _ cv_X11_245 (n_isF _ M hM (nI j)) hM.k0 (by decide) rfl (by rw [hR]; decide) (by rw [hR]; decide) (by rw [hR]; decide) (Nat.le_of_ble_eq_true rfl) rfl dX11_name_2 (fun _ _ h => False.elim h) (fun r_2 M_2 h_2 => ?_)
    obtain ⟨rfl, rfl⟩ := h_2
    rw [hF]
    have hcl : (nI j).toNatClampNeg = j := nI_clamp (by omega)
    refine z_if_eq (tgt := 19) g dX11_name_5 (by decide) (fun c => absurd c (by decide)) (fun _ => ?_)
    refine z_iload_n g dX11_name_8 rfl ?_
    refine z_callS g _ _ cs_X11_264 (n_isT _ M t) rfl (by rw [hR]; decide) (by rw [hR]; decide) (by rw [hR]; decide) (Nat.le_of_ble_eq_true rfl) rfl dX11_name_9 (fun _ _ h => False.elim h) (fun r_9 M_9 h_9 => ?_)
    obtain ⟨rfl, rfl⟩ := h_9
    refine z_if_eq (tgt := 19) g dX11_name_12 (by decide) (fun c_12 => ?_) (fun c_12 => ?_)
    · first | rw [b2i_0] at c_12 | rw [b2i_n0] at c_12 | skip
      refine z_iconst (v := 0) g dX11_name_19 (by decide) ?_
      refine z_istore g dX11_name_20 (by rw [hN]; decide) ?_
      refine z_lload_n g dX11_name_22 rfl ?_
      refine z_bipush (v := 8) g dX11_name_23 (by decide) ?_
      refine z_callS g _ _ cs_X11_267 (n_isWd _ M w 8 (by decide)) rfl (by rw [hR]; decide) (by rw [hR]; decide) (by rw [hR]; decide) (Nat.le_of_ble_eq_true rfl) rfl dX11_name_25 (fun _ _ h => False.elim h) (fun r_25 M_25 h_25 => ?_)
      obtain ⟨rfl, rfl⟩ := h_25
      refine z_if_eq (tgt := 43) g dX11_name_28 (by decide) (fun c_28 => ?_) (fun c_28 => ?_)
      · first | rw [b2i_0] at c_28 | rw [b2i_n0] at c_28 | skip
        refine z_iconst (v := 0) g dX11_name_43 (by decide) ?_
        refine z_istore g dX11_name_44 (by rw [hN]; decide) ?_
        refine z_aload_n g dX11_name_46 rfl ?_
        refine z_iload g dX11_name_47 rfl ?_
        refine z_if_ne (tgt := 56) g dX11_name_49 (by decide) (fun c_49 => absurd c_49 (by decide)) (fun _ => ?_)
        refine z_iconst (v := 1) g dX11_name_52 (by decide) ?_
        refine z_goto (tgt := 91) g dX11_name_53 (by decide) ?_
        have hc : cName S (nI j) t w d = 1 := by simp [cName, isF, hF, hcl, c_12, c_28]
        refine z_callV g _ _ cv_X11_234 (n_holds _ M hM fr0 1) hM.k0 (by decide) rfl (by rw [hR]; decide) (by rw [hR]; decide) (by rw [hR]; decide) (Nat.le_of_ble_eq_true rfl) rfl dX11_name_91 (fun _ _ h => False.elim h) (fun r_91 M1 h_91 => ?_)
        obtain ⟨rfl, hM1, fr1⟩ := h_91
        refine z_if_ne (tgt := 99) g dX11_name_94 (by decide) (fun c_94 => absurd c_94 (by decide)) (fun _ => ?_)
        refine z_iconst (v := 0) g dX11_name_97 (by decide) ?_
        exact z_iret g hrt rfl (by decide) (by decide) dX11_name_98 ⟨by rw [hc, opV_1], by rw [hc, opS_1]; exact hM1, fr1⟩
      · first | rw [b2i_0] at c_28 | rw [b2i_n0] at c_28 | skip
        refine z_iload g dX11_name_31 rfl ?_
        refine z_callS g _ _ cs_X11_248 (n_isD _ M d) rfl (by rw [hR]; decide) (by rw [hR]; decide) (by rw [hR]; decide) (Nat.le_of_ble_eq_true rfl) rfl dX11_name_33 (fun _ _ h => False.elim h) (fun r_33 M_33 h_33 => ?_)
        obtain ⟨rfl, rfl⟩ := h_33
        refine z_if_eq (tgt := 43) g dX11_name_36 (by decide) (fun c_36 => ?_) (fun c_36 => ?_)
        · first | rw [b2i_0] at c_36 | rw [b2i_n0] at c_36 | skip
          refine z_iconst (v := 0) g dX11_name_43 (by decide) ?_
          refine z_istore g dX11_name_44 (by rw [hN]; decide) ?_
          refine z_aload_n g dX11_name_46 rfl ?_
          refine z_iload g dX11_name_47 rfl ?_
          refine z_if_ne (tgt := 56) g dX11_name_49 (by decide) (fun c_49 => absurd c_49 (by decide)) (fun _ => ?_)
          refine z_iconst (v := 1) g dX11_name_52 (by decide) ?_
          refine z_goto (tgt := 91) g dX11_name_53 (by decide) ?_
          have hc : cName S (nI j) t w d = 1 := by simp [cName, isF, hF, hcl, c_12, c_28, c_36]
          refine z_callV g _ _ cv_X11_234 (n_holds _ M hM fr0 1) hM.k0 (by decide) rfl (by rw [hR]; decide) (by rw [hR]; decide) (by rw [hR]; decide) (Nat.le_of_ble_eq_true rfl) rfl dX11_name_91 (fun _ _ h => False.elim h) (fun r_91 M2 h_91 => ?_)
          obtain ⟨rfl, hM2, fr2⟩ := h_91
          refine z_if_ne (tgt := 99) g dX11_name_94 (by decide) (fun c_94 => absurd c_94 (by decide)) (fun _ => ?_)
          refine z_iconst (v := 0) g dX11_name_97 (by decide) ?_
          exact z_iret g hrt rfl (by decide) (by decide) dX11_name_98 ⟨by rw [hc, opV_1], by rw [hc, opS_1]; exact hM2, fr2⟩
        · first | rw [b2i_0] at c_36 | rw [b2i_n0] at c_36 | skip
          refine z_iconst (v := 1) g dX11_name_39 (by decide) ?_
          refine z_goto (tgt := 44) g dX11_name_40 (by decide) ?_
          refine z_istore g dX11_name_44 (by rw [hN]; decide) ?_
          refine z_aload_n g dX11_name_46 rfl ?_
          refine z_iload g dX11_name_47 rfl ?_
          refine z_if_ne (tgt := 56) g dX11_name_49 (by decide) (fun c_49 => absurd c_49 (by decide)) (fun _ => ?_)
          refine z_iconst (v := 1) g dX11_name_52 (by decide) ?_
          refine z_goto (tgt := 91) g dX11_name_53 (by decide) ?_
          have hc : cName S (nI j) t w d = 1 := by simp [cName, isF, hF, hcl, c_12, c_28, c_36]
          refine z_callV g _ _ cv_X11_234 (n_holds _ M hM fr0 1) hM.k0 (by decide) rfl (by rw [hR]; decide) (by rw [hR]; decide) (by rw [hR]; decide) (Nat.le_of_ble_eq_true rfl) rfl dX11_name_91 (fun _ _ h => False.elim h) (fun r_91 M3 h_91 => ?_)
          obtain ⟨rfl, hM3, fr3⟩ := h_91
          refine z_if_ne (tgt := 99) g dX11_name_94 (by decide) (fun c_94 => absurd c_94 (by decide)) (fun _ => ?_)
          refine z_iconst (v := 0) g dX11_name_97 (by decide) ?_
          exact z_iret g hrt rfl (by decide) (by decide) dX11_name_98 ⟨by rw [hc, opV_1], by rw [hc, opS_1]; exact hM3, fr3⟩
    · first | rw [b2i_0] at c_12 | rw [b2i_n0] at c_12 | skip
      refine z_iconst (v := 1) g dX11_name_15 (by decide) ?_
      refine z_goto (tgt := 20) g dX11_name_16 (by decide) ?_
      refine z_istore g dX11_name_20 (by rw [hN]; decide) ?_
      refine z_lload_n g dX11_name_22 rfl ?_
      refine z_bipush (v := 8) g dX11_name_23 (by decide) ?_
      refine z_callS g _ _ cs_X11_267 (n_isWd _ M w 8 (by decide)) rfl (by rw [hR]; decide) (by rw [hR]; decide) (by rw [hR]; decide) (Nat.le_of_ble_eq_true rfl) rfl dX11_name_25 (fun _ _ h => False.elim h) (fun r_25 M_25 h_25 => ?_)
      obtain ⟨rfl, rfl⟩ := h_25
      refine z_if_eq (tgt := 43) g dX11_name_28 (by decide) (fun c_28 => ?_) (fun c_28 => ?_)
      · first | rw [b2i_0] at c_28 | rw [b2i_n0] at c_28 | skip
        refine z_iconst (v := 0) g dX11_name_43 (by decide) ?_
        refine z_istore g dX11_name_44 (by rw [hN]; decide) ?_
        refine z_aload_n g dX11_name_46 rfl ?_
        refine z_iload g dX11_name_47 rfl ?_
        refine z_if_ne (tgt := 56) g dX11_name_49 (by decide) (fun _ => ?_) (fun c_49 => absurd c_49 (by decide))
        refine z_iload g dX11_name_56 rfl ?_
        refine z_if_ne (tgt := 65) g dX11_name_58 (by decide) (fun c_58 => absurd c_58 (by decide)) (fun _ => ?_)
        refine z_iconst (v := 2) g dX11_name_61 (by decide) ?_
        refine z_goto (tgt := 91) g dX11_name_62 (by decide) ?_
        have hc : cName S (nI j) t w d = 2 := by simp [cName, isF, hF, hcl, c_12, c_28]
        refine z_callV g _ _ cv_X11_234 (n_holds _ M hM fr0 2) hM.k0 (by decide) rfl (by rw [hR]; decide) (by rw [hR]; decide) (by rw [hR]; decide) (Nat.le_of_ble_eq_true rfl) rfl dX11_name_91 (fun _ _ h => False.elim h) (fun r_91 M4 h_91 => ?_)
        obtain ⟨rfl, hM4, fr4⟩ := h_91
        refine z_if_ne (tgt := 99) g dX11_name_94 (by decide) (fun c_94 => absurd c_94 (by decide)) (fun _ => ?_)
        refine z_iconst (v := 0) g dX11_name_97 (by decide) ?_
        exact z_iret g hrt rfl (by decide) (by decide) dX11_name_98 ⟨by rw [hc, opV_2], by rw [hc, opS_2]; exact hM4, fr4⟩
      · first | rw [b2i_0] at c_28 | rw [b2i_n0] at c_28 | skip
        refine z_iload g dX11_name_31 rfl ?_
        refine z_callS g _ _ cs_X11_248 (n_isD _ M d) rfl (by rw [hR]; decide) (by rw [hR]; decide) (by rw [hR]; decide) (Nat.le_of_ble_eq_true rfl) rfl dX11_name_33 (fun _ _ h => False.elim h) (fun r_33 M_33 h_33 => ?_)
        obtain ⟨rfl, rfl⟩ := h_33
        refine z_if_eq (tgt := 43) g dX11_name_36 (by decide) (fun c_36 => ?_) (fun c_36 => ?_)
        · first | rw [b2i_0] at c_36 | rw [b2i_n0] at c_36 | skip
          refine z_iconst (v := 0) g dX11_name_43 (by decide) ?_
          refine z_istore g dX11_name_44 (by rw [hN]; decide) ?_
          refine z_aload_n g dX11_name_46 rfl ?_
          refine z_iload g dX11_name_47 rfl ?_
          refine z_if_ne (tgt := 56) g dX11_name_49 (by decide) (fun _ => ?_) (fun c_49 => absurd c_49 (by decide))
          refine z_iload g dX11_name_56 rfl ?_
          refine z_if_ne (tgt := 65) g dX11_name_58 (by decide) (fun c_58 => absurd c_58 (by decide)) (fun _ => ?_)
          refine z_iconst (v := 2) g dX11_name_61 (by decide) ?_
          refine z_goto (tgt := 91) g dX11_name_62 (by decide) ?_
          have hc : cName S (nI j) t w d = 2 := by simp [cName, isF, hF, hcl, c_12, c_28, c_36]
          refine z_callV g _ _ cv_X11_234 (n_holds _ M hM fr0 2) hM.k0 (by decide) rfl (by rw [hR]; decide) (by rw [hR]; decide) (by rw [hR]; decide) (Nat.le_of_ble_eq_true rfl) rfl dX11_name_91 (fun _ _ h => False.elim h) (fun r_91 M5 h_91 => ?_)
          obtain ⟨rfl, hM5, fr5⟩ := h_91
          refine z_if_ne (tgt := 99) g dX11_name_94 (by decide) (fun c_94 => absurd c_94 (by decide)) (fun _ => ?_)
          refine z_iconst (v := 0) g dX11_name_97 (by decide) ?_
          exact z_iret g hrt rfl (by decide) (by decide) dX11_name_98 ⟨by rw [hc, opV_2], by rw [hc, opS_2]; exact hM5, fr5⟩
        · first | rw [b2i_0] at c_36 | rw [b2i_n0] at c_36 | skip
          refine z_iconst (v := 1) g dX11_name_39 (by decide) ?_
          refine z_goto (tgt := 44) g dX11_name_40 (by decide) ?_
          refine z_istore g dX11_name_44 (by rw [hN]; decide) ?_
          refine z_aload_n g dX11_name_46 rfl ?_
          refine z_iload g dX11_name_47 rfl ?_
          refine z_if_ne (tgt := 56) g dX11_name_49 (by decide) (fun _ => ?_) (fun c_49 => absurd c_49 (by decide))
          refine z_iload g dX11_name_56 rfl ?_
          refine z_if_ne (tgt := 65) g dX11_name_58 (by decide) (fun _ => ?_) (fun c_58 => absurd c_58 (by decide))
          refine z_aload_n g dX11_name_65 rfl ?_
          refine z_getI g fl_X11_201 hM.k0 (by decide) rfl dX11_name_66 ?_
          rw [show fI _ m 17 = gi S 17 from hM.sc (k := 17) (by decide) (by decide)]
          refine z_bipush (v := 100) g dX11_name_69 (by decide) ?_
          refine z_icmp_eq (tgt := 86) g dX11_name_71 (by decide) (fun c_71 => ?_) (fun c_71 => ?_)
          · refine z_iconst (v := 3) g dX11_name_86 (by decide) ?_
            refine z_goto (tgt := 91) g dX11_name_87 (by decide) ?_
            have hc : cName S (nI j) t w d = 3 := by simp [cName, isF, hF, hcl, c_12, c_28, c_36, eq_true c_71]
            refine z_callV g _ _ cv_X11_234 (n_holds _ M hM fr0 3) hM.k0 (by decide) rfl (by rw [hR]; decide) (by rw [hR]; decide) (by rw [hR]; decide) (Nat.le_of_ble_eq_true rfl) rfl dX11_name_91 (fun _ _ h => False.elim h) (fun r_91 M6 h_91 => ?_)
            obtain ⟨rfl, hM6, fr6⟩ := h_91
            refine z_if_ne (tgt := 99) g dX11_name_94 (by decide) (fun c_94 => absurd c_94 (by decide)) (fun _ => ?_)
            refine z_iconst (v := 0) g dX11_name_97 (by decide) ?_
            exact z_iret g hrt rfl (by decide) (by decide) dX11_name_98 ⟨by rw [hc, opV_3], by rw [hc, opS_3]; exact hM6, fr6⟩
          · refine z_aload_n g dX11_name_74 rfl ?_
            refine z_iload_n g dX11_name_75 rfl ?_
            refine z_iload_n g dX11_name_76 rfl ?_
            refine z_lload_n g dX11_name_77 rfl ?_
            refine z_iload g dX11_name_78 rfl ?_
            refine z_callV g _ _ cv_X11_271 (n_ref _ M hM hV0 j hj t w d) hM.k0 (by decide) rfl (by rw [hR]; decide) (by rw [hR]; decide) (by rw [hR]; decide) (Nat.le_of_ble_eq_true rfl) rfl dX11_name_80 (fun _ _ h => False.elim h) (fun r_80 M7 h_80 => ?_)
            obtain ⟨rfl, se_80⟩ := h_80
            have hM7 := hM.SE se_80
            have fr7 := fr0.tr se_80.FM
            refine z_if_eq (tgt := 90) g dX11_name_83 (by decide) (fun c_83 => ?_) (fun c_83 => ?_)
            · first | rw [b2i_0] at c_83 | rw [b2i_n0] at c_83 | skip
              refine z_iconst (v := 0) g dX11_name_90 (by decide) ?_
              have hc : cName S (nI j) t w d = 0 := by simp [cName, isF, hF, hcl, c_12, c_28, c_36, eq_false c_71, c_83]
              refine z_callV g _ _ cv_X11_234 (n_holds _ M7 hM7 fr7 0) hM7.k0 (by decide) rfl (by rw [hR]; decide) (by rw [hR]; decide) (by rw [hR]; decide) (Nat.le_of_ble_eq_true rfl) rfl dX11_name_91 (fun _ _ h => False.elim h) (fun r_91 M8 h_91 => ?_)
              obtain ⟨rfl, hM8, fr8⟩ := h_91
              refine z_if_ne (tgt := 99) g dX11_name_94 (by decide) (fun _ => ?_) (fun c_94 => absurd c_94 (by decide))
              refine z_aload_n g dX11_name_99 rfl ?_
              refine z_iload_n g dX11_name_100 rfl ?_
              refine z_iload_n g dX11_name_101 rfl ?_
              refine z_lload_n g dX11_name_102 rfl ?_
              refine z_iload g dX11_name_103 rfl ?_
              refine z_callV g _ _ cv_X11_275 (n_tells _ M8 hM8 fr8 v17.1 (by have h8 := v17.2; have h9 : ¬ cn S 17 = 100 := fun z => c_71 (by rw [v17.1, z]; rfl); show cn S 17 < 100; omega) (nI j) t w d) hM8.k0 (by decide) rfl (by rw [hR]; decide) (by rw [hR]; decide) (by rw [hR]; decide) (Nat.le_of_ble_eq_true rfl) rfl dX11_name_105 (fun _ _ h => False.elim h) (fun r_105 M9 h_105 => ?_)
              obtain ⟨rfl, hM9, fr9⟩ := h_105
              exact z_iret g hrt rfl (by decide) (by decide) dX11_name_108 ⟨by rw [hc, opV_0]; rfl, by rw [hc, opS_0]; exact hM9, fr9⟩
            · first | rw [b2i_0] at c_83 | rw [b2i_n0] at c_83 | skip
              refine z_iconst (v := 3) g dX11_name_86 (by decide) ?_
              refine z_goto (tgt := 91) g dX11_name_87 (by decide) ?_
              have hc : cName S (nI j) t w d = 3 := by simp [cName, isF, hF, hcl, c_12, c_28, c_36, eq_false c_71, c_83]
              refine z_callV g _ _ cv_X11_234 (n_holds _ M7 hM7 fr7 3) hM7.k0 (by decide) rfl (by rw [hR]; decide) (by rw [hR]; decide) (by rw [hR]; decide) (Nat.le_of_ble_eq_true rfl) rfl dX11_name_91 (fun _ _ h => False.elim h) (fun r_91 M10 h_91 => ?_)
              obtain ⟨rfl, hM10, fr10⟩ := h_91
              refine z_if_ne (tgt := 99) g dX11_name_94 (by decide) (fun c_94 => absurd c_94 (by decide)) (fun _ => ?_)
              refine z_iconst (v := 0) g dX11_name_97 (by decide) ?_
              exact z_iret g hrt rfl (by decide) (by decide) dX11_name_98 ⟨by rw [hc, opV_3], by rw [hc, opS_3]; exact hM10, fr10⟩
set_option maxHeartbeats 4000000 in
set_option maxRecDepth 100000 in
theorem n_isPt (E : Ev) {A : Nat → Nat} {m : Nat} {S : Ms} (M : Mm) (hM : RM A m S M) (f : Int32) : CT E yX11_isPetition cX11_isPetition 2 (some .boolean) 2 0 0 [.ref m, .int f] M (ansI (b2i (inB f 0 (gi S 36 - 1))) M) noX := by
  refine CT.of rfl (Nat.le_of_ble_eq_true rfl) (fun X g hrt hno hE hN hR hI => ?_)
  subst hE
  refine z_iload_n g dX11_isPetition_0 rfl ?_
  refine z_iconst (v := 0) g dX11_isPetition_1 (by decide) ?_
  refine z_aload_n g dX11_isPetition_2 rfl ?_
  refine z_getI g fl_X11_279 hM.k0 (by decide) rfl dX11_isPetition_3 ?_
  rw [hM.sc (k := 36) (by decide) (by decide)]
  refine z_iconst (v := 1) g dX11_isPetition_6 (by decide) ?_
  refine z_isub g dX11_isPetition_7 ?_
  refine z_callS g _ _ cs_X11_189 (n_in _ M f 0 (gi S 36 - 1)) rfl (by rw [hR]; decide) (by rw [hR]; decide) (by rw [hR]; decide) (Nat.le_of_ble_eq_true rfl) rfl dX11_isPetition_8 (fun _ _ h => False.elim h) (fun r_8 M_8 h_8 => ?_)
  obtain ⟨rfl, rfl⟩ := h_8
  exact z_iret g hrt (nar_b _) (by decide) (by decide) dX11_isPetition_11 ⟨rfl, rfl⟩
set_option maxHeartbeats 4000000 in
set_option maxRecDepth 100000 in
theorem m_petition (E : Ev) {A : Nat → Nat} {m : Nat} {S : Ms} (M : Mm) (hM : RM A m S M) (hV : INV S) (f t : Int32) (w : Int64) (d : Int32) : CT E yX11_petition cX11_petition 8 (some .int) 4 0 0 [.ref m, .int f, .int t, .long w, .int d] M (mAns A m (opS (cPetition S f t w d) S (sPetition S f t w d)) M (some (.int (opV (cPetition S f t w d) (vPetition S f t w d) 0)))) noX := by
  refine CT.of rfl (Nat.le_of_ble_eq_true rfl) (fun X g hrt hno hE hN hR hI => ?_)
  subst hE
  obtain ⟨v1, v2, v17, v24, v31, v36, v51, v58, v59⟩ := hV.1
  have hV0 := hV
  obtain ⟨-, vF, vN, vM, vL, vX, vP, vQ, vT, vR, vS, vO⟩ := hV
  have fr0 := FM.rf (A := A) (m := m) (M := M)
  rcases inN (n := cn S 2) (by have := v2.2; omega) f with hF | ⟨j, hj, rfl, hF⟩
  · rw [← v2.1] at hF
    refine z_aload_n g dX11_petition_0 rfl ?_
    refine z_iload_n g dX11_petition_1 rfl ?_
    refine z_callV g _ _ cv_X11_245 (n_isF _ M hM f) hM.k0 (by decide) rfl (by rw [hR]; decide) (by rw [hR]; decide) (by rw [hR]; decide) (Nat.le_of_ble_eq_true rfl) rfl dX11_petition_2 (fun _ _ h => False.elim h) (fun r_2 M_2 h_2 => ?_)
    obtain ⟨rfl, rfl⟩ := h_2
    rw [hF]
    refine z_if_eq (tgt := 19) g dX11_petition_5 (by decide) (fun _ => ?_) (fun c_5 => absurd c_5 (by decide))
    refine z_iconst (v := 0) g dX11_petition_19 (by decide) ?_
    refine z_istore g dX11_petition_20 (by rw [hN]; decide) ?_
    refine z_lload_n g dX11_petition_22 rfl ?_
    refine z_bipush (v := 8) g dX11_petition_23 (by decide) ?_
    refine z_callS g _ _ cs_X11_267 (n_isWd _ M w 8 (by decide)) rfl (by rw [hR]; decide) (by rw [hR]; decide) (by rw [hR]; decide) (Nat.le_of_ble_eq_true rfl) rfl dX11_petition_25 (fun _ _ h => False.elim h) (fun r_25 M_25 h_25 => ?_)
    obtain ⟨rfl, rfl⟩ := h_25
    refine z_if_eq (tgt := 55) g dX11_petition_28 (by decide) (fun c_28 => ?_) (fun c_28 => ?_)
    · first | rw [b2i_0] at c_28 | rw [b2i_n0] at c_28 | skip
      refine z_iconst (v := 0) g dX11_petition_55 (by decide) ?_
      refine z_istore g dX11_petition_56 (by rw [hN]; decide) ?_
      refine z_aload_n g dX11_petition_58 rfl ?_
      refine z_iload g dX11_petition_59 rfl ?_
      refine z_if_ne (tgt := 68) g dX11_petition_61 (by decide) (fun c_61 => absurd c_61 (by decide)) (fun _ => ?_)
      refine z_iconst (v := 1) g dX11_petition_64 (by decide) ?_
      refine z_goto (tgt := 91) g dX11_petition_65 (by decide) ?_
      have hc : cPetition S f t w d = 1 := by simp [cPetition, isF, hF, c_28]
      refine z_callV g _ _ cv_X11_234 (n_holds _ M hM fr0 1) hM.k0 (by decide) rfl (by rw [hR]; decide) (by rw [hR]; decide) (by rw [hR]; decide) (Nat.le_of_ble_eq_true rfl) rfl dX11_petition_91 (fun _ _ h => False.elim h) (fun r_91 M1 h_91 => ?_)
      obtain ⟨rfl, hM1, fr1⟩ := h_91
      refine z_if_ne (tgt := 99) g dX11_petition_94 (by decide) (fun c_94 => absurd c_94 (by decide)) (fun _ => ?_)
      refine z_iconst (v := 0) g dX11_petition_97 (by decide) ?_
      exact z_iret g hrt rfl (by decide) (by decide) dX11_petition_98 ⟨by rw [hc, opV_1], by rw [hc, opS_1]; exact hM1, fr1⟩
    · first | rw [b2i_0] at c_28 | rw [b2i_n0] at c_28 | skip
      refine z_iload g dX11_petition_31 rfl ?_
      refine z_callS g _ _ cs_X11_248 (n_isD _ M d) rfl (by rw [hR]; decide) (by rw [hR]; decide) (by rw [hR]; decide) (Nat.le_of_ble_eq_true rfl) rfl dX11_petition_33 (fun _ _ h => False.elim h) (fun r_33 M_33 h_33 => ?_)
      obtain ⟨rfl, rfl⟩ := h_33
      refine z_if_eq (tgt := 55) g dX11_petition_36 (by decide) (fun c_36 => ?_) (fun c_36 => ?_)
      · first | rw [b2i_0] at c_36 | rw [b2i_n0] at c_36 | skip
        refine z_iconst (v := 0) g dX11_petition_55 (by decide) ?_
        refine z_istore g dX11_petition_56 (by rw [hN]; decide) ?_
        refine z_aload_n g dX11_petition_58 rfl ?_
        refine z_iload g dX11_petition_59 rfl ?_
        refine z_if_ne (tgt := 68) g dX11_petition_61 (by decide) (fun c_61 => absurd c_61 (by decide)) (fun _ => ?_)
        refine z_iconst (v := 1) g dX11_petition_64 (by decide) ?_
        refine z_goto (tgt := 91) g dX11_petition_65 (by decide) ?_
        have hc : cPetition S f t w d = 1 := by simp [cPetition, isF, hF, c_28, c_36]
        refine z_callV g _ _ cv_X11_234 (n_holds _ M hM fr0 1) hM.k0 (by decide) rfl (by rw [hR]; decide) (by rw [hR]; decide) (by rw [hR]; decide) (Nat.le_of_ble_eq_true rfl) rfl dX11_petition_91 (fun _ _ h => False.elim h) (fun r_91 M2 h_91 => ?_)
        obtain ⟨rfl, hM2, fr2⟩ := h_91
        refine z_if_ne (tgt := 99) g dX11_petition_94 (by decide) (fun c_94 => absurd c_94 (by decide)) (fun _ => ?_)
        refine z_iconst (v := 0) g dX11_petition_97 (by decide) ?_
        exact z_iret g hrt rfl (by decide) (by decide) dX11_petition_98 ⟨by rw [hc, opV_1], by rw [hc, opS_1]; exact hM2, fr2⟩
      · first | rw [b2i_0] at c_36 | rw [b2i_n0] at c_36 | skip
        refine z_iload g dX11_petition_39 rfl ?_
        refine z_aload_n g dX11_petition_41 rfl ?_
        refine z_getI g fl_X11_238 hM.k0 (by decide) rfl dX11_petition_42 ?_
        rw [show fI _ m 1 = gi S 1 from hM.sc (k := 1) (by decide) (by decide)]
        refine z_bipush (v := 30) g dX11_petition_45 (by decide) ?_
        refine z_iadd g dX11_petition_47 ?_
        refine z_icmp_lt (tgt := 55) g dX11_petition_48 (by decide) (fun c_48 => ?_) (fun c_48 => ?_)
        · refine z_iconst (v := 0) g dX11_petition_55 (by decide) ?_
          refine z_istore g dX11_petition_56 (by rw [hN]; decide) ?_
          refine z_aload_n g dX11_petition_58 rfl ?_
          refine z_iload g dX11_petition_59 rfl ?_
          refine z_if_ne (tgt := 68) g dX11_petition_61 (by decide) (fun c_61 => absurd c_61 (by decide)) (fun _ => ?_)
          refine z_iconst (v := 1) g dX11_petition_64 (by decide) ?_
          refine z_goto (tgt := 91) g dX11_petition_65 (by decide) ?_
          have hc : cPetition S f t w d = 1 := by simp [cPetition, isF, hF, c_28, c_36, eq_true c_48]
          refine z_callV g _ _ cv_X11_234 (n_holds _ M hM fr0 1) hM.k0 (by decide) rfl (by rw [hR]; decide) (by rw [hR]; decide) (by rw [hR]; decide) (Nat.le_of_ble_eq_true rfl) rfl dX11_petition_91 (fun _ _ h => False.elim h) (fun r_91 M3 h_91 => ?_)
          obtain ⟨rfl, hM3, fr3⟩ := h_91
          refine z_if_ne (tgt := 99) g dX11_petition_94 (by decide) (fun c_94 => absurd c_94 (by decide)) (fun _ => ?_)
          refine z_iconst (v := 0) g dX11_petition_97 (by decide) ?_
          exact z_iret g hrt rfl (by decide) (by decide) dX11_petition_98 ⟨by rw [hc, opV_1], by rw [hc, opS_1]; exact hM3, fr3⟩
        · refine z_iconst (v := 1) g dX11_petition_51 (by decide) ?_
          refine z_goto (tgt := 56) g dX11_petition_52 (by decide) ?_
          refine z_istore g dX11_petition_56 (by rw [hN]; decide) ?_
          refine z_aload_n g dX11_petition_58 rfl ?_
          refine z_iload g dX11_petition_59 rfl ?_
          refine z_if_ne (tgt := 68) g dX11_petition_61 (by decide) (fun c_61 => absurd c_61 (by decide)) (fun _ => ?_)
          refine z_iconst (v := 1) g dX11_petition_64 (by decide) ?_
          refine z_goto (tgt := 91) g dX11_petition_65 (by decide) ?_
          have hc : cPetition S f t w d = 1 := by simp [cPetition, isF, hF, c_28, c_36, eq_false c_48]
          refine z_callV g _ _ cv_X11_234 (n_holds _ M hM fr0 1) hM.k0 (by decide) rfl (by rw [hR]; decide) (by rw [hR]; decide) (by rw [hR]; decide) (Nat.le_of_ble_eq_true rfl) rfl dX11_petition_91 (fun _ _ h => False.elim h) (fun r_91 M4 h_91 => ?_)
          obtain ⟨rfl, hM4, fr4⟩ := h_91
          refine z_if_ne (tgt := 99) g dX11_petition_94 (by decide) (fun c_94 => absurd c_94 (by decide)) (fun _ => ?_)
          refine z_iconst (v := 0) g dX11_petition_97 (by decide) ?_
          exact z_iret g hrt rfl (by decide) (by decide) dX11_petition_98 ⟨by rw [hc, opV_1], by rw [hc, opS_1]; exact hM4, fr4⟩
  · rw [← v2.1] at hF
    have hj24 : j < 24 := by have := v2.2; omega
    refine z_aload_n g dX11_petition_0 rfl ?_
    refine z_iload_n g dX11_petition_1 rfl ?_
    refine z_callV g _ _ cv_X11_245 (n_isF _ M hM (nI j)) hM.k0 (by decide) rfl (by rw [hR]; decide) (by rw [hR]; decide) (by rw [hR]; decide) (Nat.le_of_ble_eq_true rfl) rfl dX11_petition_2 (fun _ _ h => False.elim h) (fun r_2 M_2 h_2 => ?_)
    obtain ⟨rfl, rfl⟩ := h_2
    rw [hF]
    refine z_if_eq (tgt := 19) g dX11_petition_5 (by decide) (fun c_5 => absurd c_5 (by decide)) (fun _ => ?_)
    refine z_iload_n g dX11_petition_8 rfl ?_
    refine z_callS g _ _ cs_X11_264 (n_isT _ M t) rfl (by rw [hR]; decide) (by rw [hR]; decide) (by rw [hR]; decide) (Nat.le_of_ble_eq_true rfl) rfl dX11_petition_9 (fun _ _ h => False.elim h) (fun r_9 M_9 h_9 => ?_)
    obtain ⟨rfl, rfl⟩ := h_9
    refine z_if_eq (tgt := 19) g dX11_petition_12 (by decide) (fun c_12 => ?_) (fun c_12 => ?_)
    · first | rw [b2i_0] at c_12 | rw [b2i_n0] at c_12 | skip
      refine z_iconst (v := 0) g dX11_petition_19 (by decide) ?_
      refine z_istore g dX11_petition_20 (by rw [hN]; decide) ?_
      refine z_lload_n g dX11_petition_22 rfl ?_
      refine z_bipush (v := 8) g dX11_petition_23 (by decide) ?_
      refine z_callS g _ _ cs_X11_267 (n_isWd _ M w 8 (by decide)) rfl (by rw [hR]; decide) (by rw [hR]; decide) (by rw [hR]; decide) (Nat.le_of_ble_eq_true rfl) rfl dX11_petition_25 (fun _ _ h => False.elim h) (fun r_25 M_25 h_25 => ?_)
      obtain ⟨rfl, rfl⟩ := h_25
      refine z_if_eq (tgt := 55) g dX11_petition_28 (by decide) (fun c_28 => ?_) (fun c_28 => ?_)
      · first | rw [b2i_0] at c_28 | rw [b2i_n0] at c_28 | skip
        refine z_iconst (v := 0) g dX11_petition_55 (by decide) ?_
        refine z_istore g dX11_petition_56 (by rw [hN]; decide) ?_
        refine z_aload_n g dX11_petition_58 rfl ?_
        refine z_iload g dX11_petition_59 rfl ?_
        refine z_if_ne (tgt := 68) g dX11_petition_61 (by decide) (fun c_61 => absurd c_61 (by decide)) (fun _ => ?_)
        refine z_iconst (v := 1) g dX11_petition_64 (by decide) ?_
        refine z_goto (tgt := 91) g dX11_petition_65 (by decide) ?_
        have hc : cPetition S (nI j) t w d = 1 := by simp [cPetition, isF, hF, c_12, c_28]
        refine z_callV g _ _ cv_X11_234 (n_holds _ M hM fr0 1) hM.k0 (by decide) rfl (by rw [hR]; decide) (by rw [hR]; decide) (by rw [hR]; decide) (Nat.le_of_ble_eq_true rfl) rfl dX11_petition_91 (fun _ _ h => False.elim h) (fun r_91 M1 h_91 => ?_)
        obtain ⟨rfl, hM1, fr1⟩ := h_91
        refine z_if_ne (tgt := 99) g dX11_petition_94 (by decide) (fun c_94 => absurd c_94 (by decide)) (fun _ => ?_)
        refine z_iconst (v := 0) g dX11_petition_97 (by decide) ?_
        exact z_iret g hrt rfl (by decide) (by decide) dX11_petition_98 ⟨by rw [hc, opV_1], by rw [hc, opS_1]; exact hM1, fr1⟩
      · first | rw [b2i_0] at c_28 | rw [b2i_n0] at c_28 | skip
        refine z_iload g dX11_petition_31 rfl ?_
        refine z_callS g _ _ cs_X11_248 (n_isD _ M d) rfl (by rw [hR]; decide) (by rw [hR]; decide) (by rw [hR]; decide) (Nat.le_of_ble_eq_true rfl) rfl dX11_petition_33 (fun _ _ h => False.elim h) (fun r_33 M_33 h_33 => ?_)
        obtain ⟨rfl, rfl⟩ := h_33
        refine z_if_eq (tgt := 55) g dX11_petition_36 (by decide) (fun c_36 => ?_) (fun c_36 => ?_)
        · first | rw [b2i_0] at c_36 | rw [b2i_n0] at c_36 | skip
          refine z_iconst (v := 0) g dX11_petition_55 (by decide) ?_
          refine z_istore g dX11_petition_56 (by rw [hN]; decide) ?_
          refine z_aload_n g dX11_petition_58 rfl ?_
          refine z_iload g dX11_petition_59 rfl ?_
          refine z_if_ne (tgt := 68) g dX11_petition_61 (by decide) (fun c_61 => absurd c_61 (by decide)) (fun _ => ?_)
          refine z_iconst (v := 1) g dX11_petition_64 (by decide) ?_
          refine z_goto (tgt := 91) g dX11_petition_65 (by decide) ?_
          have hc : cPetition S (nI j) t w d = 1 := by simp [cPetition, isF, hF, c_12, c_28, c_36]
          refine z_callV g _ _ cv_X11_234 (n_holds _ M hM fr0 1) hM.k0 (by decide) rfl (by rw [hR]; decide) (by rw [hR]; decide) (by rw [hR]; decide) (Nat.le_of_ble_eq_true rfl) rfl dX11_petition_91 (fun _ _ h => False.elim h) (fun r_91 M2 h_91 => ?_)
          obtain ⟨rfl, hM2, fr2⟩ := h_91
          refine z_if_ne (tgt := 99) g dX11_petition_94 (by decide) (fun c_94 => absurd c_94 (by decide)) (fun _ => ?_)
          refine z_iconst (v := 0) g dX11_petition_97 (by decide) ?_
          exact z_iret g hrt rfl (by decide) (by decide) dX11_petition_98 ⟨by rw [hc, opV_1], by rw [hc, opS_1]; exact hM2, fr2⟩
        · first | rw [b2i_0] at c_36 | rw [b2i_n0] at c_36 | skip
          refine z_iload g dX11_petition_39 rfl ?_
          refine z_aload_n g dX11_petition_41 rfl ?_
          refine z_getI g fl_X11_238 hM.k0 (by decide) rfl dX11_petition_42 ?_
          rw [show fI _ m 1 = gi S 1 from hM.sc (k := 1) (by decide) (by decide)]
          refine z_bipush (v := 30) g dX11_petition_45 (by decide) ?_
          refine z_iadd g dX11_petition_47 ?_
          refine z_icmp_lt (tgt := 55) g dX11_petition_48 (by decide) (fun c_48 => ?_) (fun c_48 => ?_)
          · refine z_iconst (v := 0) g dX11_petition_55 (by decide) ?_
            refine z_istore g dX11_petition_56 (by rw [hN]; decide) ?_
            refine z_aload_n g dX11_petition_58 rfl ?_
            refine z_iload g dX11_petition_59 rfl ?_
            refine z_if_ne (tgt := 68) g dX11_petition_61 (by decide) (fun c_61 => absurd c_61 (by decide)) (fun _ => ?_)
            refine z_iconst (v := 1) g dX11_petition_64 (by decide) ?_
            refine z_goto (tgt := 91) g dX11_petition_65 (by decide) ?_
            have hc : cPetition S (nI j) t w d = 1 := by simp [cPetition, isF, hF, c_12, c_28, c_36, eq_true c_48]
            refine z_callV g _ _ cv_X11_234 (n_holds _ M hM fr0 1) hM.k0 (by decide) rfl (by rw [hR]; decide) (by rw [hR]; decide) (by rw [hR]; decide) (Nat.le_of_ble_eq_true rfl) rfl dX11_petition_91 (fun _ _ h => False.elim h) (fun r_91 M3 h_91 => ?_)
            obtain ⟨rfl, hM3, fr3⟩ := h_91
            refine z_if_ne (tgt := 99) g dX11_petition_94 (by decide) (fun c_94 => absurd c_94 (by decide)) (fun _ => ?_)
            refine z_iconst (v := 0) g dX11_petition_97 (by decide) ?_
            exact z_iret g hrt rfl (by decide) (by decide) dX11_petition_98 ⟨by rw [hc, opV_1], by rw [hc, opS_1]; exact hM3, fr3⟩
          · refine z_iconst (v := 1) g dX11_petition_51 (by decide) ?_
            refine z_goto (tgt := 56) g dX11_petition_52 (by decide) ?_
            refine z_istore g dX11_petition_56 (by rw [hN]; decide) ?_
            refine z_aload_n g dX11_petition_58 rfl ?_
            refine z_iload g dX11_petition_59 rfl ?_
            refine z_if_ne (tgt := 68) g dX11_petition_61 (by decide) (fun c_61 => absurd c_61 (by decide)) (fun _ => ?_)
            refine z_iconst (v := 1) g dX11_petition_64 (by decide) ?_
            refine z_goto (tgt := 91) g dX11_petition_65 (by decide) ?_
            have hc : cPetition S (nI j) t w d = 1 := by simp [cPetition, isF, hF, c_12, c_28, c_36, eq_false c_48]
            refine z_callV g _ _ cv_X11_234 (n_holds _ M hM fr0 1) hM.k0 (by decide) rfl (by rw [hR]; decide) (by rw [hR]; decide) (by rw [hR]; decide) (Nat.le_of_ble_eq_true rfl) rfl dX11_petition_91 (fun _ _ h => False.elim h) (fun r_91 M4 h_91 => ?_)
            obtain ⟨rfl, hM4, fr4⟩ := h_91
            refine z_if_ne (tgt := 99) g dX11_petition_94 (by decide) (fun c_94 => absurd c_94 (by decide)) (fun _ => ?_)
            refine z_iconst (v := 0) g dX11_petition_97 (by decide) ?_
            exact z_iret g hrt rfl (by decide) (by decide) dX11_petition_98 ⟨by rw [hc, opV_1], by rw [hc, opS_1]; exact hM4, fr4⟩
    · first | rw [b2i_0] at c_12 | rw [b2i_n0] at c_12 | skip
      refine z_iconst (v := 1) g dX11_petition_15 (by decide) ?_
      refine z_goto (tgt := 20) g dX11_petition_16 (by decide) ?_
      refine z_istore g dX11_petition_20 (by rw [hN]; decide) ?_
      refine z_lload_n g dX11_petition_22 rfl ?_
      refine z_bipush (v := 8) g dX11_petition_23 (by decide) ?_
      refine z_callS g _ _ cs_X11_267 (n_isWd _ M w 8 (by decide)) rfl (by rw [hR]; decide) (by rw [hR]; decide) (by rw [hR]; decide) (Nat.le_of_ble_eq_true rfl) rfl dX11_petition_25 (fun _ _ h => False.elim h) (fun r_25 M_25 h_25 => ?_)
      obtain ⟨rfl, rfl⟩ := h_25
      refine z_if_eq (tgt := 55) g dX11_petition_28 (by decide) (fun c_28 => ?_) (fun c_28 => ?_)
      · first | rw [b2i_0] at c_28 | rw [b2i_n0] at c_28 | skip
        refine z_iconst (v := 0) g dX11_petition_55 (by decide) ?_
        refine z_istore g dX11_petition_56 (by rw [hN]; decide) ?_
        refine z_aload_n g dX11_petition_58 rfl ?_
        refine z_iload g dX11_petition_59 rfl ?_
        refine z_if_ne (tgt := 68) g dX11_petition_61 (by decide) (fun _ => ?_) (fun c_61 => absurd c_61 (by decide))
        refine z_iload g dX11_petition_68 rfl ?_
        refine z_if_ne (tgt := 77) g dX11_petition_70 (by decide) (fun c_70 => absurd c_70 (by decide)) (fun _ => ?_)
        refine z_iconst (v := 2) g dX11_petition_73 (by decide) ?_
        refine z_goto (tgt := 91) g dX11_petition_74 (by decide) ?_
        have hc : cPetition S (nI j) t w d = 2 := by simp [cPetition, isF, hF, c_12, c_28]
        refine z_callV g _ _ cv_X11_234 (n_holds _ M hM fr0 2) hM.k0 (by decide) rfl (by rw [hR]; decide) (by rw [hR]; decide) (by rw [hR]; decide) (Nat.le_of_ble_eq_true rfl) rfl dX11_petition_91 (fun _ _ h => False.elim h) (fun r_91 M5 h_91 => ?_)
        obtain ⟨rfl, hM5, fr5⟩ := h_91
        refine z_if_ne (tgt := 99) g dX11_petition_94 (by decide) (fun c_94 => absurd c_94 (by decide)) (fun _ => ?_)
        refine z_iconst (v := 0) g dX11_petition_97 (by decide) ?_
        exact z_iret g hrt rfl (by decide) (by decide) dX11_petition_98 ⟨by rw [hc, opV_2], by rw [hc, opS_2]; exact hM5, fr5⟩
      · first | rw [b2i_0] at c_28 | rw [b2i_n0] at c_28 | skip
        refine z_iload g dX11_petition_31 rfl ?_
        refine z_callS g _ _ cs_X11_248 (n_isD _ M d) rfl (by rw [hR]; decide) (by rw [hR]; decide) (by rw [hR]; decide) (Nat.le_of_ble_eq_true rfl) rfl dX11_petition_33 (fun _ _ h => False.elim h) (fun r_33 M_33 h_33 => ?_)
        obtain ⟨rfl, rfl⟩ := h_33
        refine z_if_eq (tgt := 55) g dX11_petition_36 (by decide) (fun c_36 => ?_) (fun c_36 => ?_)
        · first | rw [b2i_0] at c_36 | rw [b2i_n0] at c_36 | skip
          refine z_iconst (v := 0) g dX11_petition_55 (by decide) ?_
          refine z_istore g dX11_petition_56 (by rw [hN]; decide) ?_
          refine z_aload_n g dX11_petition_58 rfl ?_
          refine z_iload g dX11_petition_59 rfl ?_
          refine z_if_ne (tgt := 68) g dX11_petition_61 (by decide) (fun _ => ?_) (fun c_61 => absurd c_61 (by decide))
          refine z_iload g dX11_petition_68 rfl ?_
          refine z_if_ne (tgt := 77) g dX11_petition_70 (by decide) (fun c_70 => absurd c_70 (by decide)) (fun _ => ?_)
          refine z_iconst (v := 2) g dX11_petition_73 (by decide) ?_
          refine z_goto (tgt := 91) g dX11_petition_74 (by decide) ?_
          have hc : cPetition S (nI j) t w d = 2 := by simp [cPetition, isF, hF, c_12, c_28, c_36]
          refine z_callV g _ _ cv_X11_234 (n_holds _ M hM fr0 2) hM.k0 (by decide) rfl (by rw [hR]; decide) (by rw [hR]; decide) (by rw [hR]; decide) (Nat.le_of_ble_eq_true rfl) rfl dX11_petition_91 (fun _ _ h => False.elim h) (fun r_91 M6 h_91 => ?_)
          obtain ⟨rfl, hM6, fr6⟩ := h_91
          refine z_if_ne (tgt := 99) g dX11_petition_94 (by decide) (fun c_94 => absurd c_94 (by decide)) (fun _ => ?_)
          refine z_iconst (v := 0) g dX11_petition_97 (by decide) ?_
          exact z_iret g hrt rfl (by decide) (by decide) dX11_petition_98 ⟨by rw [hc, opV_2], by rw [hc, opS_2]; exact hM6, fr6⟩
        · first | rw [b2i_0] at c_36 | rw [b2i_n0] at c_36 | skip
          refine z_iload g dX11_petition_39 rfl ?_
          refine z_aload_n g dX11_petition_41 rfl ?_
          refine z_getI g fl_X11_238 hM.k0 (by decide) rfl dX11_petition_42 ?_
          rw [show fI _ m 1 = gi S 1 from hM.sc (k := 1) (by decide) (by decide)]
          refine z_bipush (v := 30) g dX11_petition_45 (by decide) ?_
          refine z_iadd g dX11_petition_47 ?_
          refine z_icmp_lt (tgt := 55) g dX11_petition_48 (by decide) (fun c_48 => ?_) (fun c_48 => ?_)
          · refine z_iconst (v := 0) g dX11_petition_55 (by decide) ?_
            refine z_istore g dX11_petition_56 (by rw [hN]; decide) ?_
            refine z_aload_n g dX11_petition_58 rfl ?_
            refine z_iload g dX11_petition_59 rfl ?_
            refine z_if_ne (tgt := 68) g dX11_petition_61 (by decide) (fun _ => ?_) (fun c_61 => absurd c_61 (by decide))
            refine z_iload g dX11_petition_68 rfl ?_
            refine z_if_ne (tgt := 77) g dX11_petition_70 (by decide) (fun c_70 => absurd c_70 (by decide)) (fun _ => ?_)
            refine z_iconst (v := 2) g dX11_petition_73 (by decide) ?_
            refine z_goto (tgt := 91) g dX11_petition_74 (by decide) ?_
            have hc : cPetition S (nI j) t w d = 2 := by simp [cPetition, isF, hF, c_12, c_28, c_36, eq_true c_48]
            refine z_callV g _ _ cv_X11_234 (n_holds _ M hM fr0 2) hM.k0 (by decide) rfl (by rw [hR]; decide) (by rw [hR]; decide) (by rw [hR]; decide) (Nat.le_of_ble_eq_true rfl) rfl dX11_petition_91 (fun _ _ h => False.elim h) (fun r_91 M7 h_91 => ?_)
            obtain ⟨rfl, hM7, fr7⟩ := h_91
            refine z_if_ne (tgt := 99) g dX11_petition_94 (by decide) (fun c_94 => absurd c_94 (by decide)) (fun _ => ?_)
            refine z_iconst (v := 0) g dX11_petition_97 (by decide) ?_
            exact z_iret g hrt rfl (by decide) (by decide) dX11_petition_98 ⟨by rw [hc, opV_2], by rw [hc, opS_2]; exact hM7, fr7⟩
          · refine z_iconst (v := 1) g dX11_petition_51 (by decide) ?_
            refine z_goto (tgt := 56) g dX11_petition_52 (by decide) ?_
            refine z_istore g dX11_petition_56 (by rw [hN]; decide) ?_
            refine z_aload_n g dX11_petition_58 rfl ?_
            refine z_iload g dX11_petition_59 rfl ?_
            refine z_if_ne (tgt := 68) g dX11_petition_61 (by decide) (fun _ => ?_) (fun c_61 => absurd c_61 (by decide))
            refine z_iload g dX11_petition_68 rfl ?_
            refine z_if_ne (tgt := 77) g dX11_petition_70 (by decide) (fun _ => ?_) (fun c_70 => absurd c_70 (by decide))
            refine z_aload_n g dX11_petition_77 rfl ?_
            refine z_getI g fl_X11_279 hM.k0 (by decide) rfl dX11_petition_78 ?_
            rw [show fI _ m 36 = gi S 36 from hM.sc (k := 36) (by decide) (by decide)]
            refine z_bipush (v := 16) g dX11_petition_81 (by decide) ?_
            refine z_icmp_ne (tgt := 90) g dX11_petition_83 (by decide) (fun c_83 => ?_) (fun c_83 => ?_)
            · refine z_iconst (v := 0) g dX11_petition_90 (by decide) ?_
              have hc : cPetition S (nI j) t w d = 0 := by simp [cPetition, isF, hF, c_12, c_28, c_36, eq_false c_48, eq_false c_83]
              refine z_callV g _ _ cv_X11_234 (n_holds _ M hM fr0 0) hM.k0 (by decide) rfl (by rw [hR]; decide) (by rw [hR]; decide) (by rw [hR]; decide) (Nat.le_of_ble_eq_true rfl) rfl dX11_petition_91 (fun _ _ h => False.elim h) (fun r_91 M8 h_91 => ?_)
              obtain ⟨rfl, hM8, fr8⟩ := h_91
              refine z_if_ne (tgt := 99) g dX11_petition_94 (by decide) (fun _ => ?_) (fun c_94 => absurd c_94 (by decide))
              have hn16 : cn S 36 < 16 := by
                have h8 := v36.2
                have h9 : ¬ cn S 36 = 16 := fun z => c_83 (by rw [v36.1, z]; rfl)
                omega
              refine z_aload_n g dX11_petition_99 rfl ?_
              refine z_getR g fl_X11_101 hM8.k0 (by decide) rfl (hM8.ref (k := 37) (by decide)) dX11_petition_100 ?_
              refine z_aload_n g dX11_petition_103 rfl ?_
              refine z_getI g fl_X11_279 hM8.k0 (by decide) rfl dX11_petition_104 ?_
              rw [show fI _ m 36 = gi S 36 from hM8.sc (k := 36) (by decide) (by decide), v36.1]
              refine z_iload_n g dX11_petition_107 rfl ?_
              refine m_iast g hM8 fr8 37 (by decide) (by show _ < 16; omega) dX11_petition_108 (fun M9 hM9 fr9 => ?_)
              refine z_aload_n g dX11_petition_109 rfl ?_
              refine z_getR g fl_X11_104 hM9.k0 (by decide) rfl (hM9.ref (k := 38) (by decide)) dX11_petition_110 ?_
              refine z_aload_n g dX11_petition_113 rfl ?_
              refine z_getI g fl_X11_279 hM9.k0 (by decide) rfl dX11_petition_114 ?_
              rw [show fI _ m 36 = gi S 36 from hM9.sc (k := 36) (by decide) (by decide), v36.1]
              refine z_iload_n g dX11_petition_117 rfl ?_
              refine m_iast g hM9 fr9 38 (by decide) (by show _ < 16; omega) dX11_petition_118 (fun M10 hM10 fr10 => ?_)
              refine z_aload_n g dX11_petition_119 rfl ?_
              refine z_getR g fl_X11_107 hM10.k0 (by decide) rfl (hM10.refL (k := 39) (by decide)) dX11_petition_120 ?_
              refine z_aload_n g dX11_petition_123 rfl ?_
              refine z_getI g fl_X11_279 hM10.k0 (by decide) rfl dX11_petition_124 ?_
              rw [show fI _ m 36 = gi S 36 from hM10.sc (k := 36) (by decide) (by decide), v36.1]
              refine z_lload_n g dX11_petition_127 rfl ?_
              refine m_last g hM10 fr10 39 (by decide) (by show _ < 16; omega) dX11_petition_128 (fun M11 hM11 fr11 => ?_)
              refine z_aload_n g dX11_petition_129 rfl ?_
              refine z_getR g fl_X11_110 hM11.k0 (by decide) rfl (hM11.ref (k := 40) (by decide)) dX11_petition_130 ?_
              refine z_aload_n g dX11_petition_133 rfl ?_
              refine z_getI g fl_X11_279 hM11.k0 (by decide) rfl dX11_petition_134 ?_
              rw [show fI _ m 36 = gi S 36 from hM11.sc (k := 36) (by decide) (by decide), v36.1]
              refine z_iload g dX11_petition_137 rfl ?_
              refine m_iast g hM11 fr11 40 (by decide) (by show _ < 16; omega) dX11_petition_139 (fun M12 hM12 fr12 => ?_)
              refine z_aload_n g dX11_petition_140 rfl ?_
              refine z_getR g fl_X11_125 hM12.k0 (by decide) rfl (hM12.ref (k := 45) (by decide)) dX11_petition_141 ?_
              refine z_aload_n g dX11_petition_144 rfl ?_
              refine z_getI g fl_X11_279 hM12.k0 (by decide) rfl dX11_petition_145 ?_
              rw [show fI _ m 36 = gi S 36 from hM12.sc (k := 36) (by decide) (by decide), v36.1]
              refine z_iconst (v := (-1)) g dX11_petition_148 (by decide) ?_
              refine m_iast g hM12 fr12 45 (by decide) (by show _ < 16; omega) dX11_petition_149 (fun M13 hM13 fr13 => ?_)
              refine z_aload_n g dX11_petition_150 rfl ?_
              refine z_dup g dX11_petition_151 rfl ?_
              refine z_getI g fl_X11_279 hM13.k0 (by decide) rfl dX11_petition_152 ?_
              rw [show fI _ m 36 = gi S 36 from hM13.sc (k := 36) (by decide) (by decide)]
              refine z_iconst (v := 1) g dX11_petition_155 (by decide) ?_
              refine z_iadd g dX11_petition_156 ?_
              refine m_puti g hM13 fr13 (k := 36) fp_X11_279 rfl dX11_petition_157 (fun M14 hM14 fr14 => ?_)
              refine z_aload_n g dX11_petition_160 rfl ?_
              refine z_getI g fl_X11_279 hM14.k0 (by decide) rfl dX11_petition_161 ?_
              rw [show fI _ m 36 = gi S 36 + 1 from hM14.sc (k := 36) (by decide) (by decide), v36.1, nI_s]
              refine z_iconst (v := 1) g dX11_petition_164 (by decide) ?_
              refine z_isub g dX11_petition_165 ?_
              exact z_iret g hrt rfl (by decide) (by decide) dX11_petition_166 ⟨by rw [hc, opV_0]; rw [show nI (cn S 36 + 1) - 1 = nI (cn S 36) from nI_pred _]; rfl, by rw [hc, opS_0]; exact hM14, fr14⟩
            · refine z_iconst (v := 3) g dX11_petition_86 (by decide) ?_
              refine z_goto (tgt := 91) g dX11_petition_87 (by decide) ?_
              have hc : cPetition S (nI j) t w d = 3 := by simp [cPetition, isF, hF, c_12, c_28, c_36, eq_false c_48, eq_true c_83]
              refine z_callV g _ _ cv_X11_234 (n_holds _ M hM fr0 3) hM.k0 (by decide) rfl (by rw [hR]; decide) (by rw [hR]; decide) (by rw [hR]; decide) (Nat.le_of_ble_eq_true rfl) rfl dX11_petition_91 (fun _ _ h => False.elim h) (fun r_91 M15 h_91 => ?_)
              obtain ⟨rfl, hM15, fr15⟩ := h_91
              refine z_if_ne (tgt := 99) g dX11_petition_94 (by decide) (fun c_94 => absurd c_94 (by decide)) (fun _ => ?_)
              refine z_iconst (v := 0) g dX11_petition_97 (by decide) ?_
              exact z_iret g hrt rfl (by decide) (by decide) dX11_petition_98 ⟨by rw [hc, opV_3], by rw [hc, opS_3]; exact hM15, fr15⟩
set_option maxHeartbeats 4000000 in
set_option maxRecDepth 100000 in
theorem m_vote (E : Ev) {A : Nat → Nat} {m : Nat} {S : Ms} (M : Mm) (hM : RM A m S M) (hV : INV S) (p c b : Int32) : CT E yX11_vote cX11_vote 6 (some .int) 4 0 0 [.ref m, .int p, .int c, .int b] M (mAns A m (opS (cVote S p c b) S (sVote S p c b)) M (some (.int (opV (cVote S p c b) (vVote S p c b) 0)))) noX := by
  refine CT.of rfl (Nat.le_of_ble_eq_true rfl) (fun X g hrt hno hE hN hR hI => ?_)
  subst hE
  obtain ⟨v1, v2, v17, v24, v31, v36, v51, v58, v59⟩ := hV.1
  have hV0 := hV
  obtain ⟨-, vF, vN, vM, vL, vX, vP, vQ, vT, vR, vS, vO⟩ := hV
  have fr0 := FM.rf (A := A) (m := m) (M := M)
  rcases inN (n := cn S 36) (by have := v36.2; omega) p with hF | ⟨j, hj, rfl, hF⟩
  · rw [← v36.1] at hF
    refine z_aload_n g dX11_vote_0 rfl ?_
    refine z_iload_n g dX11_vote_1 rfl ?_
    refine z_callV g _ _ cv_X11_282 (n_isPt _ M hM p) hM.k0 (by decide) rfl (by rw [hR]; decide) (by rw [hR]; decide) (by rw [hR]; decide) (Nat.le_of_ble_eq_true rfl) rfl dX11_vote_2 (fun _ _ h => False.elim h) (fun r_2 M_2 h_2 => ?_)
    obtain ⟨rfl, rfl⟩ := h_2
    rw [hF]
    refine z_if_eq (tgt := 22) g dX11_vote_5 (by decide) (fun _ => ?_) (fun c_5 => absurd c_5 (by decide))
    refine z_iconst (v := 0) g dX11_vote_22 (by decide) ?_
    refine z_istore g dX11_vote_23 (by rw [hN]; decide) ?_
    refine z_iload g dX11_vote_25 rfl ?_
    refine z_if_eq (tgt := 63) g dX11_vote_27 (by decide) (fun _ => ?_) (fun c_27 => absurd c_27 (by decide))
    refine z_iconst (v := 0) g dX11_vote_63 (by decide) ?_
    refine z_istore g dX11_vote_64 (by rw [hN]; decide) ?_
    refine z_aload_n g dX11_vote_66 rfl ?_
    refine z_iload g dX11_vote_67 rfl ?_
    refine z_if_ne (tgt := 76) g dX11_vote_69 (by decide) (fun c_69 => absurd c_69 (by decide)) (fun _ => ?_)
    refine z_iconst (v := 1) g dX11_vote_72 (by decide) ?_
    refine z_goto (tgt := 86) g dX11_vote_73 (by decide) ?_
    have hc : cVote S p c b = 1 := by simp [cVote, isP, hF]
    refine z_callV g _ _ cv_X11_234 (n_holds _ M hM fr0 1) hM.k0 (by decide) rfl (by rw [hR]; decide) (by rw [hR]; decide) (by rw [hR]; decide) (Nat.le_of_ble_eq_true rfl) rfl dX11_vote_86 (fun _ _ h => False.elim h) (fun r_86 M1 h_86 => ?_)
    obtain ⟨rfl, hM1, fr1⟩ := h_86
    refine z_if_ne (tgt := 94) g dX11_vote_89 (by decide) (fun c_89 => absurd c_89 (by decide)) (fun _ => ?_)
    refine z_iconst (v := 0) g dX11_vote_92 (by decide) ?_
    exact z_iret g hrt rfl (by decide) (by decide) dX11_vote_93 ⟨by rw [hc, opV_1], by rw [hc, opS_1]; exact hM1, fr1⟩
  · rw [← v36.1] at hF
    have hj24 : j < 16 := by have := v36.2; omega
    refine z_aload_n g dX11_vote_0 rfl ?_
    refine z_iload_n g dX11_vote_1 rfl ?_
    refine z_callV g _ _ cv_X11_282 (n_isPt _ M hM (nI j)) hM.k0 (by decide) rfl (by rw [hR]; decide) (by rw [hR]; decide) (by rw [hR]; decide) (Nat.le_of_ble_eq_true rfl) rfl dX11_vote_2 (fun _ _ h => False.elim h) (fun r_2 M_2 h_2 => ?_)
    obtain ⟨rfl, rfl⟩ := h_2
    rw [hF]
    have hcl : (nI j).toNatClampNeg = j := nI_clamp (by omega)
    obtain ⟨-, -, -, -, -, -, h42, h43, -⟩ := vP j hj
    refine z_if_eq (tgt := 22) g dX11_vote_5 (by decide) (fun c => absurd c (by decide)) (fun _ => ?_)
    refine z_iload_n g dX11_vote_8 rfl ?_
    refine z_iconst (v := 0) g dX11_vote_9 (by decide) ?_
    refine z_bipush (v := 8) g dX11_vote_10 (by decide) ?_
    refine z_callS g _ _ cs_X11_189 (n_in _ M c 0 8) rfl (by rw [hR]; decide) (by rw [hR]; decide) (by rw [hR]; decide) (Nat.le_of_ble_eq_true rfl) rfl dX11_vote_12 (fun _ _ h => False.elim h) (fun r_12 M_12 h_12 => ?_)
    obtain ⟨rfl, rfl⟩ := h_12
    refine z_if_eq (tgt := 22) g dX11_vote_15 (by decide) (fun c_15 => ?_) (fun c_15 => ?_)
    · first | rw [b2i_0] at c_15 | rw [b2i_n0] at c_15 | skip
      refine z_iconst (v := 0) g dX11_vote_22 (by decide) ?_
      refine z_istore g dX11_vote_23 (by rw [hN]; decide) ?_
      refine z_iload g dX11_vote_25 rfl ?_
      refine z_if_eq (tgt := 63) g dX11_vote_27 (by decide) (fun _ => ?_) (fun c_27 => absurd c_27 (by decide))
      refine z_iconst (v := 0) g dX11_vote_63 (by decide) ?_
      refine z_istore g dX11_vote_64 (by rw [hN]; decide) ?_
      refine z_aload_n g dX11_vote_66 rfl ?_
      refine z_iload g dX11_vote_67 rfl ?_
      refine z_if_ne (tgt := 76) g dX11_vote_69 (by decide) (fun c_69 => absurd c_69 (by decide)) (fun _ => ?_)
      refine z_iconst (v := 1) g dX11_vote_72 (by decide) ?_
      refine z_goto (tgt := 86) g dX11_vote_73 (by decide) ?_
      have hc : cVote S (nI j) c b = 1 := by simp [cVote, isP, hF, hcl, c_15]
      refine z_callV g _ _ cv_X11_234 (n_holds _ M hM fr0 1) hM.k0 (by decide) rfl (by rw [hR]; decide) (by rw [hR]; decide) (by rw [hR]; decide) (Nat.le_of_ble_eq_true rfl) rfl dX11_vote_86 (fun _ _ h => False.elim h) (fun r_86 M1 h_86 => ?_)
      obtain ⟨rfl, hM1, fr1⟩ := h_86
      refine z_if_ne (tgt := 94) g dX11_vote_89 (by decide) (fun c_89 => absurd c_89 (by decide)) (fun _ => ?_)
      refine z_iconst (v := 0) g dX11_vote_92 (by decide) ?_
      exact z_iret g hrt rfl (by decide) (by decide) dX11_vote_93 ⟨by rw [hc, opV_1], by rw [hc, opS_1]; exact hM1, fr1⟩
    · first | rw [b2i_0] at c_15 | rw [b2i_n0] at c_15 | skip
      refine z_iconst (v := 1) g dX11_vote_18 (by decide) ?_
      refine z_goto (tgt := 23) g dX11_vote_19 (by decide) ?_
      refine z_istore g dX11_vote_23 (by rw [hN]; decide) ?_
      refine z_iload g dX11_vote_25 rfl ?_
      refine z_if_eq (tgt := 63) g dX11_vote_27 (by decide) (fun c_27 => absurd c_27 (by decide)) (fun _ => ?_)
      refine z_aload_n g dX11_vote_30 rfl ?_
      refine z_getR g fl_X11_113 hM.k0 (by decide) rfl (hM.ref (k := 41) (by decide)) dX11_vote_31 ?_
      refine z_iload_n g dX11_vote_34 rfl ?_
      refine z_ialdk g (hM.kA1 (k := 41) (by decide)) (by decide) (vp_in_nI (by rw [hM.lnI (k := 41) (by decide)]; show _ < 16; omega) (by rw [hM.lnI (k := 41) (by decide)]; decide)) dX11_vote_35 ?_
      rw [nI_clamp (by omega), show fI _ (A 41) = gA S 41 from hM.row (k := 41) (by decide) (by decide)]
      refine z_if_ne (tgt := 63) g dX11_vote_36 (by decide) (fun c_36 => ?_) (fun c_36 => ?_)
      · refine z_iconst (v := 0) g dX11_vote_63 (by decide) ?_
        refine z_istore g dX11_vote_64 (by rw [hN]; decide) ?_
        refine z_aload_n g dX11_vote_66 rfl ?_
        refine z_iload g dX11_vote_67 rfl ?_
        refine z_if_ne (tgt := 76) g dX11_vote_69 (by decide) (fun _ => ?_) (fun c_69 => absurd c_69 (by decide))
        refine z_iload g dX11_vote_76 rfl ?_
        refine z_if_eq (tgt := 85) g dX11_vote_78 (by decide) (fun _ => ?_) (fun c_78 => absurd c_78 (by decide))
        refine z_iconst (v := 2) g dX11_vote_85 (by decide) ?_
        have hc : cVote S (nI j) c b = 2 := by simp [cVote, isP, hF, hcl, c_15, eq_false c_36]
        refine z_callV g _ _ cv_X11_234 (n_holds _ M hM fr0 2) hM.k0 (by decide) rfl (by rw [hR]; decide) (by rw [hR]; decide) (by rw [hR]; decide) (Nat.le_of_ble_eq_true rfl) rfl dX11_vote_86 (fun _ _ h => False.elim h) (fun r_86 M2 h_86 => ?_)
        obtain ⟨rfl, hM2, fr2⟩ := h_86
        refine z_if_ne (tgt := 94) g dX11_vote_89 (by decide) (fun c_89 => absurd c_89 (by decide)) (fun _ => ?_)
        refine z_iconst (v := 0) g dX11_vote_92 (by decide) ?_
        exact z_iret g hrt rfl (by decide) (by decide) dX11_vote_93 ⟨by rw [hc, opV_2], by rw [hc, opS_2]; exact hM2, fr2⟩
      · refine z_aload_n g dX11_vote_39 rfl ?_
        refine z_getR g fl_X11_116 hM.k0 (by decide) rfl (hM.ref (k := 42) (by decide)) dX11_vote_40 ?_
        refine z_iload_n g dX11_vote_43 rfl ?_
        refine z_ialdk g (hM.kA1 (k := 42) (by decide)) (by decide) (vp_in_nI (by rw [hM.lnI (k := 42) (by decide)]; show _ < 16; omega) (by rw [hM.lnI (k := 42) (by decide)]; decide)) dX11_vote_44 ?_
        rw [nI_clamp (by omega), show fI _ (A 42) = gA S 42 from hM.row (k := 42) (by decide) (by decide)]
        refine z_aload_n g dX11_vote_45 rfl ?_
        refine z_getR g fl_X11_119 hM.k0 (by decide) rfl (hM.ref (k := 43) (by decide)) dX11_vote_46 ?_
        refine z_iload_n g dX11_vote_49 rfl ?_
        refine z_ialdk g (hM.kA1 (k := 43) (by decide)) (by decide) (vp_in_nI (by rw [hM.lnI (k := 43) (by decide)]; show _ < 16; omega) (by rw [hM.lnI (k := 43) (by decide)]; decide)) dX11_vote_50 ?_
        rw [nI_clamp (by omega), show fI _ (A 43) = gA S 43 from hM.row (k := 43) (by decide) (by decide)]
        refine z_ior g dX11_vote_51 ?_
        refine z_iload_n g dX11_vote_52 rfl ?_
        refine z_ishr g dX11_vote_53 ?_
        refine z_iconst (v := 1) g dX11_vote_54 (by decide) ?_
        refine z_iand g dX11_vote_55 ?_
        refine z_if_ne (tgt := 63) g dX11_vote_56 (by decide) (fun c_56 => ?_) (fun c_56 => ?_)
        · refine z_iconst (v := 0) g dX11_vote_63 (by decide) ?_
          refine z_istore g dX11_vote_64 (by rw [hN]; decide) ?_
          refine z_aload_n g dX11_vote_66 rfl ?_
          refine z_iload g dX11_vote_67 rfl ?_
          refine z_if_ne (tgt := 76) g dX11_vote_69 (by decide) (fun _ => ?_) (fun c_69 => absurd c_69 (by decide))
          refine z_iload g dX11_vote_76 rfl ?_
          refine z_if_eq (tgt := 85) g dX11_vote_78 (by decide) (fun _ => ?_) (fun c_78 => absurd c_78 (by decide))
          refine z_iconst (v := 2) g dX11_vote_85 (by decide) ?_
          have hc : cVote S (nI j) c b = 2 := by simp [cVote, isP, hF, hcl, c_15, eq_true c_36, eq_false c_56]
          refine z_callV g _ _ cv_X11_234 (n_holds _ M hM fr0 2) hM.k0 (by decide) rfl (by rw [hR]; decide) (by rw [hR]; decide) (by rw [hR]; decide) (Nat.le_of_ble_eq_true rfl) rfl dX11_vote_86 (fun _ _ h => False.elim h) (fun r_86 M3 h_86 => ?_)
          obtain ⟨rfl, hM3, fr3⟩ := h_86
          refine z_if_ne (tgt := 94) g dX11_vote_89 (by decide) (fun c_89 => absurd c_89 (by decide)) (fun _ => ?_)
          refine z_iconst (v := 0) g dX11_vote_92 (by decide) ?_
          exact z_iret g hrt rfl (by decide) (by decide) dX11_vote_93 ⟨by rw [hc, opV_2], by rw [hc, opS_2]; exact hM3, fr3⟩
        · refine z_iconst (v := 1) g dX11_vote_59 (by decide) ?_
          refine z_goto (tgt := 64) g dX11_vote_60 (by decide) ?_
          refine z_istore g dX11_vote_64 (by rw [hN]; decide) ?_
          refine z_aload_n g dX11_vote_66 rfl ?_
          refine z_iload g dX11_vote_67 rfl ?_
          refine z_if_ne (tgt := 76) g dX11_vote_69 (by decide) (fun _ => ?_) (fun c_69 => absurd c_69 (by decide))
          refine z_iload g dX11_vote_76 rfl ?_
          refine z_if_eq (tgt := 85) g dX11_vote_78 (by decide) (fun c_78 => absurd c_78 (by decide)) (fun _ => ?_)
          refine z_iconst (v := 0) g dX11_vote_81 (by decide) ?_
          refine z_goto (tgt := 86) g dX11_vote_82 (by decide) ?_
          have hc : cVote S (nI j) c b = 0 := by simp [cVote, isP, hF, hcl, c_15, eq_true c_36, eq_true c_56]
          refine z_callV g _ _ cv_X11_234 (n_holds _ M hM fr0 0) hM.k0 (by decide) rfl (by rw [hR]; decide) (by rw [hR]; decide) (by rw [hR]; decide) (Nat.le_of_ble_eq_true rfl) rfl dX11_vote_86 (fun _ _ h => False.elim h) (fun r_86 M4 h_86 => ?_)
          obtain ⟨rfl, hM4, fr4⟩ := h_86
          refine z_if_ne (tgt := 94) g dX11_vote_89 (by decide) (fun _ => ?_) (fun c_89 => absurd c_89 (by decide))
          have hc8 : ∃ c9, c9 ≤ 8 ∧ c = nI c9 := by
            obtain ⟨c9, -, q1, q2⟩ := inb (v := c) (a := 0) (b := 8) (by decide) (by rw [← Bool.not_eq_false]; exact c_15) (by decide)
            exact ⟨c9, q1, q2⟩
          refine z_iload_n g dX11_vote_94 rfl ?_
          refine z_if_eq (tgt := 113) g dX11_vote_95 (by decide) (fun c_95 => ?_) (fun c_95 => ?_)
          · refine z_aload_n g dX11_vote_113 rfl ?_
            refine z_getR g fl_X11_119 hM4.k0 (by decide) rfl (hM4.ref (k := 43) (by decide)) dX11_vote_114 ?_
            refine z_iload_n g dX11_vote_117 rfl ?_
            refine z_dup2 g dX11_vote_118 rfl rfl ?_
            refine z_ialdk g (hM4.kA1 (k := 43) (by decide)) (by decide) (vp_in_nI (by rw [hM4.lnI (k := 43) (by decide)]; show _ < 16; omega) (by rw [hM4.lnI (k := 43) (by decide)]; decide)) dX11_vote_119 ?_
            rw [nI_clamp (by omega), show fI _ (A 43) = gA S 43 from hM4.row (k := 43) (by decide) (by decide)]
            refine z_iconst (v := 1) g dX11_vote_120 (by decide) ?_
            refine z_iload_n g dX11_vote_121 rfl ?_
            refine z_ishl g dX11_vote_122 ?_
            refine z_ior g dX11_vote_123 ?_
            refine m_iast g hM4 fr4 43 (by decide) (by show _ < 16; omega) dX11_vote_124 (fun M5 hM5 fr5 => ?_)
            refine z_aload_n g dX11_vote_125 rfl ?_
            refine z_getR g fl_X11_116 hM5.k0 (by decide) rfl (hM5.ref (k := 42) (by decide)) dX11_vote_126 ?_
            refine z_iload_n g dX11_vote_129 rfl ?_
            refine z_ialdk g (hM5.kA1 (k := 42) (by decide)) (by decide) (vp_in_nI (by rw [hM5.lnI (k := 42) (by decide)]; show _ < 16; omega) (by rw [hM5.lnI (k := 42) (by decide)]; decide)) dX11_vote_130 ?_
            rw [nI_clamp (by omega), show fI _ (A 42) = gA S 42 from hM5.row (k := 42) (by decide) (by decide)]
            refine z_aload_n g dX11_vote_131 rfl ?_
            refine z_getR g fl_X11_119 hM5.k0 (by decide) rfl (hM5.ref (k := 43) (by decide)) dX11_vote_132 ?_
            refine z_iload_n g dX11_vote_135 rfl ?_
            refine z_ialdk g (hM5.kA1 (k := 43) (by decide)) (by decide) (vp_in_nI (by rw [hM5.lnI (k := 43) (by decide)]; show _ < 16; omega) (by rw [hM5.lnI (k := 43) (by decide)]; decide)) dX11_vote_136 ?_
            rw [nI_clamp (by omega), show fI _ (A 43) j = gA S 43 j ||| 1 <<< (c &&& 31) from by rw [hM5.row (k := 43) (by decide) (by decide)]; exact if_pos ⟨rfl, rfl⟩]
            refine z_ior g dX11_vote_137 ?_
            obtain ⟨c9, hc9, rfl⟩ := hc8
            have heq : ca S 42 j ||| (ca S 43 j ||| 2 ^ c9) = ca S 42 j ||| ca S 43 j ||| 2 ^ c9 := (Nat.or_assoc _ _ _).symm
            rw [sh1 c9 (by omega), h42.1, h43.1, nI_or, nI_or, heq]
            have hb2 : 2 ^ c9 < 2 ^ 9 := Nat.pow_lt_pow_right (by decide) (by omega)
            have hb4 : ca S 42 j < 2 ^ 9 := by have := h42.2; omega
            have hb3 : ca S 43 j < 2 ^ 9 := by have := h43.2; omega
            have hb5 : (ca S 42 j ||| ca S 43 j ||| 2 ^ c9) < 2 ^ 9 := Nat.or_lt_two_pow (Nat.or_lt_two_pow hb4 hb3) hb2
            refine z_callS g _ _ cs_X11_285 (n_bits _ _ (ca S 42 j ||| ca S 43 j ||| 2 ^ c9) (by omega)) rfl (by rw [hR]; decide) (by rw [hR]; decide) (by rw [hR]; decide) (Nat.le_of_ble_eq_true rfl) rfl dX11_vote_138 (fun _ _ h => False.elim h) (fun r_138 M_138 h_138 => ?_)
            obtain ⟨rfl, rfl⟩ := h_138
            have hc9c : (nI c9).toNatClampNeg = c9 := nI_clamp (by omega)
            exact z_iret g hrt rfl (by decide) (by decide) dX11_vote_141 ⟨by rw [hc, opV_0, vVote, hcl, hc9c], by rw [hc, opS_0, sVote, hcl, if_pos c_95]; exact hM5, fr5⟩
          · refine z_aload_n g dX11_vote_98 rfl ?_
            refine z_getR g fl_X11_116 hM4.k0 (by decide) rfl (hM4.ref (k := 42) (by decide)) dX11_vote_99 ?_
            refine z_iload_n g dX11_vote_102 rfl ?_
            refine z_dup2 g dX11_vote_103 rfl rfl ?_
            refine z_ialdk g (hM4.kA1 (k := 42) (by decide)) (by decide) (vp_in_nI (by rw [hM4.lnI (k := 42) (by decide)]; show _ < 16; omega) (by rw [hM4.lnI (k := 42) (by decide)]; decide)) dX11_vote_104 ?_
            rw [nI_clamp (by omega), show fI _ (A 42) = gA S 42 from hM4.row (k := 42) (by decide) (by decide)]
            refine z_iconst (v := 1) g dX11_vote_105 (by decide) ?_
            refine z_iload_n g dX11_vote_106 rfl ?_
            refine z_ishl g dX11_vote_107 ?_
            refine z_ior g dX11_vote_108 ?_
            refine m_iast g hM4 fr4 42 (by decide) (by show _ < 16; omega) dX11_vote_109 (fun M6 hM6 fr6 => ?_)
            refine z_goto (tgt := 125) g dX11_vote_110 (by decide) ?_
            refine z_aload_n g dX11_vote_125 rfl ?_
            refine z_getR g fl_X11_116 hM6.k0 (by decide) rfl (hM6.ref (k := 42) (by decide)) dX11_vote_126 ?_
            refine z_iload_n g dX11_vote_129 rfl ?_
            refine z_ialdk g (hM6.kA1 (k := 42) (by decide)) (by decide) (vp_in_nI (by rw [hM6.lnI (k := 42) (by decide)]; show _ < 16; omega) (by rw [hM6.lnI (k := 42) (by decide)]; decide)) dX11_vote_130 ?_
            rw [nI_clamp (by omega), show fI _ (A 42) j = gA S 42 j ||| 1 <<< (c &&& 31) from by rw [hM6.row (k := 42) (by decide) (by decide)]; exact if_pos ⟨rfl, rfl⟩]
            refine z_aload_n g dX11_vote_131 rfl ?_
            refine z_getR g fl_X11_119 hM6.k0 (by decide) rfl (hM6.ref (k := 43) (by decide)) dX11_vote_132 ?_
            refine z_iload_n g dX11_vote_135 rfl ?_
            refine z_ialdk g (hM6.kA1 (k := 43) (by decide)) (by decide) (vp_in_nI (by rw [hM6.lnI (k := 43) (by decide)]; show _ < 16; omega) (by rw [hM6.lnI (k := 43) (by decide)]; decide)) dX11_vote_136 ?_
            rw [nI_clamp (by omega), show fI _ (A 43) = gA S 43 from hM6.row (k := 43) (by decide) (by decide)]
            refine z_ior g dX11_vote_137 ?_
            obtain ⟨c9, hc9, rfl⟩ := hc8
            have heq : (ca S 42 j ||| 2 ^ c9) ||| ca S 43 j = ca S 42 j ||| ca S 43 j ||| 2 ^ c9 := by rw [Nat.or_assoc, Nat.or_comm (2 ^ c9), ← Nat.or_assoc]
            rw [sh1 c9 (by omega), h42.1, h43.1, nI_or, nI_or, heq]
            have hb2 : 2 ^ c9 < 2 ^ 9 := Nat.pow_lt_pow_right (by decide) (by omega)
            have hb4 : ca S 42 j < 2 ^ 9 := by have := h42.2; omega
            have hb3 : ca S 43 j < 2 ^ 9 := by have := h43.2; omega
            have hb5 : (ca S 42 j ||| ca S 43 j ||| 2 ^ c9) < 2 ^ 9 := Nat.or_lt_two_pow (Nat.or_lt_two_pow hb4 hb3) hb2
            refine z_callS g _ _ cs_X11_285 (n_bits _ _ (ca S 42 j ||| ca S 43 j ||| 2 ^ c9) (by omega)) rfl (by rw [hR]; decide) (by rw [hR]; decide) (by rw [hR]; decide) (Nat.le_of_ble_eq_true rfl) rfl dX11_vote_138 (fun _ _ h => False.elim h) (fun r_138 M_138 h_138 => ?_)
            obtain ⟨rfl, rfl⟩ := h_138
            have hc9c : (nI c9).toNatClampNeg = c9 := nI_clamp (by omega)
            exact z_iret g hrt rfl (by decide) (by decide) dX11_vote_141 ⟨by rw [hc, opV_0, vVote, hcl, hc9c], by rw [hc, opS_0, sVote, hcl, if_neg c_95]; exact hM6, fr6⟩
