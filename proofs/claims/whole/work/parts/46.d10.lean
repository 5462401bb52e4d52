/-! ===== the model: tables told, readings told, copies, orders, budget, signs (printed by gen/mod_d10.py) ===== -/
set_option maxHeartbeats 4000000 in
set_option maxRecDepth 100000 in
theorem n_isTb (E : Ev) (M : Mm) (f : Int32) : CT E yX11_isTable cX11_isTable 1 (some .boolean) 2 0 0 [.int f] M (ansI (b2i (inB f 0 3)) M) noX := by
  refine CT.of rfl (Nat.le_of_ble_eq_true rfl) (fun X g hrt hno hE hN hR hI => ?_)
  subst hE
  refine z_iload_n g dX11_isTable_0 rfl ?_
  refine z_iconst (v := 0) g dX11_isTable_1 (by decide) ?_
  refine z_iconst (v := 3) g dX11_isTable_2 (by decide) ?_
  refine z_callS g _ _ cs_X11_189 (n_in _ M f 0 3) rfl (by rw [hR]; decide) (by rw [hR]; decide) (by rw [hR]; decide) (Nat.le_of_ble_eq_true rfl) rfl dX11_isTable_3 (fun _ _ h => False.elim h) (fun r_3 M_3 h_3 => ?_)
  obtain ⟨rfl, rfl⟩ := h_3
  exact z_iret g hrt (nar_b _) (by decide) (by decide) dX11_isTable_6 ⟨rfl, rfl⟩
set_option maxHeartbeats 4000000 in
set_option maxRecDepth 100000 in
theorem n_isSb (E : Ev) (M : Mm) (f : Int32) : CT E yX11_isSubscriber cX11_isSubscriber 1 (some .boolean) 2 0 0 [.int f] M (ansI (b2i (inB f 0 3)) M) noX := by
  refine CT.of rfl (Nat.le_of_ble_eq_true rfl) (fun X g hrt hno hE hN hR hI => ?_)
  subst hE
  refine z_iload_n g dX11_isSubscriber_0 rfl ?_
  refine z_iconst (v := 0) g dX11_isSubscriber_1 (by decide) ?_
  refine z_iconst (v := 3) g dX11_isSubscriber_2 (by decide) ?_
  refine z_callS g _ _ cs_X11_189 (n_in _ M f 0 3) rfl (by rw [hR]; decide) (by rw [hR]; decide) (by rw [hR]; decide) (Nat.le_of_ble_eq_true rfl) rfl dX11_isSubscriber_3 (fun _ _ h => False.elim h) (fun r_3 M_3 h_3 => ?_)
  obtain ⟨rfl, rfl⟩ := h_3
  exact z_iret g hrt (nar_b _) (by decide) (by decide) dX11_isSubscriber_6 ⟨rfl, rfl⟩
set_option maxHeartbeats 4000000 in
set_option maxRecDepth 100000 in
theorem m_table (E : Ev) {A : Nat → Nat} {m : Nat} {S : Ms} (M : Mm) (hM : RM A m S M) (hV : INV S) (t l o : Int32) : CT E yX11_table cX11_table 5 (some .int) 4 0 0 [.ref m, .int t, .int l, .int o] M (mAns A m (opS (cTable S t l o) S (sTable S t l o)) M (some (.int (opV (cTable S t l o) (vTable S t l o) 0)))) noX := by
  refine CT.of rfl (Nat.le_of_ble_eq_true rfl) (fun X g hrt hno hE hN hR hI => ?_)
  subst hE
  obtain ⟨v1, v2, v17, v24, v31, v36, v51, v58, v59⟩ := hV.1
  have hV0 := hV
  obtain ⟨-, vF, vN, vM, vL, vX, vP, vQ, vT, vR, vS, vO⟩ := hV
  have fr0 := FM.rf (A := A) (m := m) (M := M)
  refine z_aload_n g dX11_table_0 rfl ?_
  refine z_iload_n g dX11_table_1 rfl ?_
  refine z_callS g _ _ cs_X11_296 (n_isTb _ M t) rfl (by rw [hR]; decide) (by rw [hR]; decide) (by rw [hR]; decide) (Nat.le_of_ble_eq_true rfl) rfl dX11_table_2 (fun _ _ h => False.elim h) (fun r_2 M_2 h_2 => ?_)
  obtain ⟨rfl, rfl⟩ := h_2
  refine z_if_ne (tgt := 12) g dX11_table_5 (by decide) (fun c_5 => ?_) (fun c_5 => ?_)
  · first | rw [b2i_0] at c_5 | rw [b2i_n0] at c_5 | skip
    refine z_iload_n g dX11_table_12 rfl ?_
    refine z_iconst (v := 1) g dX11_table_13 (by decide) ?_
    refine z_bipush (v := 26) g dX11_table_14 (by decide) ?_
    refine z_callS g _ _ cs_X11_189 (n_in _ M l 1 26) rfl (by rw [hR]; decide) (by rw [hR]; decide) (by rw [hR]; decide) (Nat.le_of_ble_eq_true rfl) rfl dX11_table_16 (fun _ _ h => False.elim h) (fun r_16 M_16 h_16 => ?_)
    obtain ⟨rfl, rfl⟩ := h_16
    refine z_if_eq (tgt := 36) g dX11_table_19 (by decide) (fun c_19 => ?_) (fun c_19 => ?_)
    · first | rw [b2i_0] at c_19 | rw [b2i_n0] at c_19 | skip
      refine z_iconst (v := 2) g dX11_table_36 (by decide) ?_
      have hc : cTable S t l o = 2 := by simp [cTable, c_5, c_19]
      refine z_callV g _ _ cv_X11_234 (n_holds _ M hM fr0 2) hM.k0 (by decide) rfl (by rw [hR]; decide) (by rw [hR]; decide) (by rw [hR]; decide) (Nat.le_of_ble_eq_true rfl) rfl dX11_table_37 (fun _ _ h => False.elim h) (fun r_37 M1 h_37 => ?_)
      obtain ⟨rfl, hM1, fr1⟩ := h_37
      refine z_if_ne (tgt := 45) g dX11_table_40 (by decide) (fun c_40 => absurd c_40 (by decide)) (fun _ => ?_)
      refine z_iconst (v := 0) g dX11_table_43 (by decide) ?_
      exact z_iret g hrt rfl (by decide) (by decide) dX11_table_44 ⟨by rw [hc, opV_2], by rw [hc, opS_2]; exact hM1, fr1⟩
    · first | rw [b2i_0] at c_19 | rw [b2i_n0] at c_19 | skip
      refine z_iload_n g dX11_table_22 rfl ?_
      refine z_iconst (v := 1) g dX11_table_23 (by decide) ?_
      refine z_bipush (v := 26) g dX11_table_24 (by decide) ?_
      refine z_callS g _ _ cs_X11_189 (n_in _ M o 1 26) rfl (by rw [hR]; decide) (by rw [hR]; decide) (by rw [hR]; decide) (Nat.le_of_ble_eq_true rfl) rfl dX11_table_26 (fun _ _ h => False.elim h) (fun r_26 M_26 h_26 => ?_)
      obtain ⟨rfl, rfl⟩ := h_26
      refine z_if_eq (tgt := 36) g dX11_table_29 (by decide) (fun c_29 => ?_) (fun c_29 => ?_)
      · first | rw [b2i_0] at c_29 | rw [b2i_n0] at c_29 | skip
        refine z_iconst (v := 2) g dX11_table_36 (by decide) ?_
        have hc : cTable S t l o = 2 := by simp [cTable, c_5, c_19, c_29]
        refine z_callV g _ _ cv_X11_234 (n_holds _ M hM fr0 2) hM.k0 (by decide) rfl (by rw [hR]; decide) (by rw [hR]; decide) (by rw [hR]; decide) (Nat.le_of_ble_eq_true rfl) rfl dX11_table_37 (fun _ _ h => False.elim h) (fun r_37 M2 h_37 => ?_)
        obtain ⟨rfl, hM2, fr2⟩ := h_37
        refine z_if_ne (tgt := 45) g dX11_table_40 (by decide) (fun c_40 => absurd c_40 (by decide)) (fun _ => ?_)
        refine z_iconst (v := 0) g dX11_table_43 (by decide) ?_
        exact z_iret g hrt rfl (by decide) (by decide) dX11_table_44 ⟨by rw [hc, opV_2], by rw [hc, opS_2]; exact hM2, fr2⟩
      · first | rw [b2i_0] at c_29 | rw [b2i_n0] at c_29 | skip
        refine z_iconst (v := 0) g dX11_table_32 (by decide) ?_
        refine z_goto (tgt := 37) g dX11_table_33 (by decide) ?_
        have hc : cTable S t l o = 0 := by simp [cTable, c_5, c_19, c_29]
        refine z_callV g _ _ cv_X11_234 (n_holds _ M hM fr0 0) hM.k0 (by decide) rfl (by rw [hR]; decide) (by rw [hR]; decide) (by rw [hR]; decide) (Nat.le_of_ble_eq_true rfl) rfl dX11_table_37 (fun _ _ h => False.elim h) (fun r_37 M3 h_37 => ?_)
        obtain ⟨rfl, hM3, fr3⟩ := h_37
        refine z_if_ne (tgt := 45) g dX11_table_40 (by decide) (fun _ => ?_) (fun c_40 => absurd c_40 (by decide))
        obtain ⟨t4, ht4, rfl⟩ : ∃ t4, t4 < 4 ∧ t = nI t4 := by
          rcases in4 t with z | ⟨t4, q1, q2, -⟩
          · exact absurd z c_5
          · exact ⟨t4, q1, q2⟩
        have ht4c : (nI t4).toNatClampNeg = t4 := nI_clamp (by omega)
        obtain ⟨l4, hl41, hl42, rfl⟩ : ∃ l4, 1 ≤ l4 ∧ l4 ≤ 26 ∧ l = nI l4 := inb (v := l) (a := 1) (b := 26) (by decide) (by rw [← Bool.not_eq_false]; exact c_19) (by decide)
        have hl4c : (nI l4).toNatClampNeg = l4 := nI_clamp (by omega)
        refine z_aload_n g dX11_table_45 rfl ?_
        refine z_getR g fl_X11_140 hM3.k0 (by decide) rfl (hM3.ref (k := 50) (by decide)) dX11_table_46 ?_
        refine z_bipush (v := 27) g dX11_table_49 (by decide) ?_
        refine z_iload_n g dX11_table_51 rfl ?_
        refine z_imul g dX11_table_52 ?_
        rw [m27]
        refine z_iload_n g dX11_table_53 rfl ?_
        refine z_iadd g dX11_table_54 ?_
        rw [nI_add]
        refine z_ialdk g (hM3.kA1 (k := 50) (by decide)) (by decide) (vp_in_nI (by rw [hM3.lnI (k := 50) (by decide)]; show _ < 108; omega) (by rw [hM3.lnI (k := 50) (by decide)]; decide)) dX11_table_55 ?_
        rw [nI_clamp (by omega), show fI _ (A 50) = gA S 50 from hM3.row (k := 50) (by decide) (by decide)]
        refine z_istore g dX11_table_56 (by rw [hN]; decide) ?_
        refine z_aload_n g dX11_table_58 rfl ?_
        refine z_getR g fl_X11_140 hM3.k0 (by decide) rfl (hM3.ref (k := 50) (by decide)) dX11_table_59 ?_
        refine z_bipush (v := 27) g dX11_table_62 (by decide) ?_
        refine z_iload_n g dX11_table_64 rfl ?_
        refine z_imul g dX11_table_65 ?_
        rw [m27]
        refine z_iload_n g dX11_table_66 rfl ?_
        refine z_iadd g dX11_table_67 ?_
        rw [nI_add]
        refine z_iload_n g dX11_table_68 rfl ?_
        refine m_iast g hM3 fr3 50 (by decide) (by show _ < 108; omega) dX11_table_69 (fun M4 hM4 fr4 => ?_)
        refine z_iload g dX11_table_70 rfl ?_
        exact z_iret g hrt rfl (by decide) (by decide) dX11_table_72 ⟨by rw [hc, opV_0]; rw [vTable, ht4c, hl4c], by rw [hc, opS_0, sTable, ht4c, hl4c]; exact hM4, fr4⟩
  · first | rw [b2i_0] at c_5 | rw [b2i_n0] at c_5 | skip
    refine z_iconst (v := 1) g dX11_table_8 (by decide) ?_
    refine z_goto (tgt := 37) g dX11_table_9 (by decide) ?_
    have hc : cTable S t l o = 1 := by simp [cTable, c_5]
    refine z_callV g _ _ cv_X11_234 (n_holds _ M hM fr0 1) hM.k0 (by decide) rfl (by rw [hR]; decide) (by rw [hR]; decide) (by rw [hR]; decide) (Nat.le_of_ble_eq_true rfl) rfl dX11_table_37 (fun _ _ h => False.elim h) (fun r_37 M5 h_37 => ?_)
    obtain ⟨rfl, hM5, fr5⟩ := h_37
    refine z_if_ne (tgt := 45) g dX11_table_40 (by decide) (fun c_40 => absurd c_40 (by decide)) (fun _ => ?_)
    refine z_iconst (v := 0) g dX11_table_43 (by decide) ?_
    exact z_iret g hrt rfl (by decide) (by decide) dX11_table_44 ⟨by rw [hc, opV_1], by rw [hc, opS_1]; exact hM5, fr5⟩
set_option maxHeartbeats 4000000 in
set_option maxRecDepth 100000 in
theorem m_reading (E : Ev) {A : Nat → Nat} {m : Nat} {S : Ms} (M : Mm) (hM : RM A m S M) (hV : INV S) (w : Int64) (x y : Int32) : CT E yX11_reading cX11_reading 5 (some .int) 4 0 0 [.ref m, .long w, .int x, .int y] M (mAns A m (opS (cReading S w x y) S (sReading S w x y)) M (some (.int (opV (cReading S w x y) (vReading S w x y) 0)))) noX := by
  refine CT.of rfl (Nat.le_of_ble_eq_true rfl) (fun X g hrt hno hE hN hR hI => ?_)
  subst hE
  obtain ⟨v1, v2, v17, v24, v31, v36, v51, v58, v59⟩ := hV.1
  have hV0 := hV
  obtain ⟨-, vF, vN, vM, vL, vX, vP, vQ, vT, vR, vS, vO⟩ := hV
  have fr0 := FM.rf (A := A) (m := m) (M := M)
  refine z_aload_n g dX11_reading_0 rfl ?_
  refine z_lload_n g dX11_reading_1 rfl ?_
  refine z_bipush (v := 8) g dX11_reading_2 (by decide) ?_
  refine z_callS g _ _ cs_X11_267 (n_isWd _ M w 8 (by decide)) rfl (by rw [hR]; decide) (by rw [hR]; decide) (by rw [hR]; decide) (Nat.le_of_ble_eq_true rfl) rfl dX11_reading_4 (fun _ _ h => False.elim h) (fun r_4 M_4 h_4 => ?_)
  obtain ⟨rfl, rfl⟩ := h_4
  refine z_if_eq (tgt := 19) g dX11_reading_7 (by decide) (fun c_7 => ?_) (fun c_7 => ?_)
  · first | rw [b2i_0] at c_7 | rw [b2i_n0] at c_7 | skip
    refine z_iconst (v := 1) g dX11_reading_19 (by decide) ?_
    refine z_goto (tgt := 36) g dX11_reading_20 (by decide) ?_
    have hc : cReading S w x y = 1 := by simp [cReading, plB2, c_7]
    refine z_callV g _ _ cv_X11_234 (n_holds _ M hM fr0 1) hM.k0 (by decide) rfl (by rw [hR]; decide) (by rw [hR]; decide) (by rw [hR]; decide) (Nat.le_of_ble_eq_true rfl) rfl dX11_reading_36 (fun _ _ h => False.elim h) (fun r_36 M1 h_36 => ?_)
    obtain ⟨rfl, hM1, fr1⟩ := h_36
    refine z_if_ne (tgt := 44) g dX11_reading_39 (by decide) (fun c_39 => absurd c_39 (by decide)) (fun _ => ?_)
    refine z_iconst (v := 0) g dX11_reading_42 (by decide) ?_
    exact z_iret g hrt rfl (by decide) (by decide) dX11_reading_43 ⟨by rw [hc, opV_1], by rw [hc, opS_1]; exact hM1, fr1⟩
  · first | rw [b2i_0] at c_7 | rw [b2i_n0] at c_7 | skip
    refine z_iload_n g dX11_reading_10 rfl ?_
    refine z_iload g dX11_reading_11 rfl ?_
    refine z_callS g _ _ cs_X11_230 (n_isP _ M x y) rfl (by rw [hR]; decide) (by rw [hR]; decide) (by rw [hR]; decide) (Nat.le_of_ble_eq_true rfl) rfl dX11_reading_13 (fun _ _ h => False.elim h) (fun r_13 M_13 h_13 => ?_)
    obtain ⟨rfl, rfl⟩ := h_13
    refine z_if_ne (tgt := 23) g dX11_reading_16 (by decide) (fun c_16 => ?_) (fun c_16 => ?_)
    · first | rw [b2i_0] at c_16 | rw [b2i_n0] at c_16 | skip
      refine z_aload_n g dX11_reading_23 rfl ?_
      refine z_getI g fl_X11_305 hM.k0 (by decide) rfl dX11_reading_24 ?_
      rw [show fI _ m 51 = gi S 51 from hM.sc (k := 51) (by decide) (by decide)]
      refine z_iconst (v := 4) g dX11_reading_27 (by decide) ?_
      refine z_icmp_ne (tgt := 35) g dX11_reading_28 (by decide) (fun c_28 => ?_) (fun c_28 => ?_)
      · refine z_iconst (v := 0) g dX11_reading_35 (by decide) ?_
        have hc : cReading S w x y = 0 := by simp [cReading, plB2, c_7, c_16, eq_false c_28]
        refine z_callV g _ _ cv_X11_234 (n_holds _ M hM fr0 0) hM.k0 (by decide) rfl (by rw [hR]; decide) (by rw [hR]; decide) (by rw [hR]; decide) (Nat.le_of_ble_eq_true rfl) rfl dX11_reading_36 (fun _ _ h => False.elim h) (fun r_36 M2 h_36 => ?_)
        obtain ⟨rfl, hM2, fr2⟩ := h_36
        refine z_if_ne (tgt := 44) g dX11_reading_39 (by decide) (fun _ => ?_) (fun c_39 => absurd c_39 (by decide))
        have hn4 : cn S 51 < 4 := by
          have h8 := v51.2
          have h9 : ¬ cn S 51 = 4 := fun z => c_28 (by rw [v51.1, z]; rfl)
          omega
        refine z_aload_n g dX11_reading_44 rfl ?_
        refine z_getR g fl_X11_143 hM2.k0 (by decide) rfl (hM2.refL (k := 52) (by decide)) dX11_reading_45 ?_
        refine z_aload_n g dX11_reading_48 rfl ?_
        refine z_getI g fl_X11_305 hM2.k0 (by decide) rfl dX11_reading_49 ?_
        rw [show fI _ m 51 = gi S 51 from hM2.sc (k := 51) (by decide) (by decide), v51.1]
        refine z_lload_n g dX11_reading_52 rfl ?_
        refine m_last g hM2 fr2 52 (by decide) (by show _ < 4; omega) dX11_reading_53 (fun M3 hM3 fr3 => ?_)
        refine z_aload_n g dX11_reading_54 rfl ?_
        refine z_getR g fl_X11_146 hM3.k0 (by decide) rfl (hM3.ref (k := 53) (by decide)) dX11_reading_55 ?_
        refine z_aload_n g dX11_reading_58 rfl ?_
        refine z_getI g fl_X11_305 hM3.k0 (by decide) rfl dX11_reading_59 ?_
        rw [show fI _ m 51 = gi S 51 from hM3.sc (k := 51) (by decide) (by decide), v51.1]
        refine z_iload_n g dX11_reading_62 rfl ?_
        refine m_iast g hM3 fr3 53 (by decide) (by show _ < 4; omega) dX11_reading_63 (fun M4 hM4 fr4 => ?_)
        refine z_aload_n g dX11_reading_64 rfl ?_
        refine z_getR g fl_X11_149 hM4.k0 (by decide) rfl (hM4.ref (k := 54) (by decide)) dX11_reading_65 ?_
        refine z_aload_n g dX11_reading_68 rfl ?_
        refine z_getI g fl_X11_305 hM4.k0 (by decide) rfl dX11_reading_69 ?_
        rw [show fI _ m 51 = gi S 51 from hM4.sc (k := 51) (by decide) (by decide), v51.1]
        refine z_iload g dX11_reading_72 rfl ?_
        refine m_iast g hM4 fr4 54 (by decide) (by show _ < 4; omega) dX11_reading_74 (fun M5 hM5 fr5 => ?_)
        refine z_aload_n g dX11_reading_75 rfl ?_
        refine z_dup g dX11_reading_76 rfl ?_
        refine z_getI g fl_X11_305 hM5.k0 (by decide) rfl dX11_reading_77 ?_
        rw [show fI _ m 51 = gi S 51 from hM5.sc (k := 51) (by decide) (by decide)]
        refine z_iconst (v := 1) g dX11_reading_80 (by decide) ?_
        refine z_iadd g dX11_reading_81 ?_
        refine m_puti g hM5 fr5 (k := 51) fp_X11_305 rfl dX11_reading_82 (fun M6 hM6 fr6 => ?_)
        refine z_aload_n g dX11_reading_85 rfl ?_
        refine z_getI g fl_X11_305 hM6.k0 (by decide) rfl dX11_reading_86 ?_
        rw [show fI _ m 51 = gi S 51 + 1 from hM6.sc (k := 51) (by decide) (by decide), v51.1, nI_s]
        refine z_iconst (v := 1) g dX11_reading_89 (by decide) ?_
        refine z_isub g dX11_reading_90 ?_
        exact z_iret g hrt rfl (by decide) (by decide) dX11_reading_91 ⟨by rw [hc, opV_0]; rw [show nI (cn S 51 + 1) - 1 = nI (cn S 51) from nI_pred _]; rfl, by rw [hc, opS_0]; exact hM6, fr6⟩
      · refine z_iconst (v := 2) g dX11_reading_31 (by decide) ?_
        refine z_goto (tgt := 36) g dX11_reading_32 (by decide) ?_
        have hc : cReading S w x y = 2 := by simp [cReading, plB2, c_7, c_16, eq_true c_28]
        refine z_callV g _ _ cv_X11_234 (n_holds _ M hM fr0 2) hM.k0 (by decide) rfl (by rw [hR]; decide) (by rw [hR]; decide) (by rw [hR]; decide) (Nat.le_of_ble_eq_true rfl) rfl dX11_reading_36 (fun _ _ h => False.elim h) (fun r_36 M7 h_36 => ?_)
        obtain ⟨rfl, hM7, fr7⟩ := h_36
        refine z_if_ne (tgt := 44) g dX11_reading_39 (by decide) (fun c_39 => absurd c_39 (by decide)) (fun _ => ?_)
        refine z_iconst (v := 0) g dX11_reading_42 (by decide) ?_
        exact z_iret g hrt rfl (by decide) (by decide) dX11_reading_43 ⟨by rw [hc, opV_2], by rw [hc, opS_2]; exact hM7, fr7⟩
    · first | rw [b2i_0] at c_16 | rw [b2i_n0] at c_16 | skip
      refine z_iconst (v := 1) g dX11_reading_19 (by decide) ?_
      refine z_goto (tgt := 36) g dX11_reading_20 (by decide) ?_
      have hc : cReading S w x y = 1 := by simp [cReading, plB2, c_7, c_16]
      refine z_callV g _ _ cv_X11_234 (n_holds _ M hM fr0 1) hM.k0 (by decide) rfl (by rw [hR]; decide) (by rw [hR]; decide) (by rw [hR]; decide) (Nat.le_of_ble_eq_true rfl) rfl dX11_reading_36 (fun _ _ h => False.elim h) (fun r_36 M8 h_36 => ?_)
      obtain ⟨rfl, hM8, fr8⟩ := h_36
      refine z_if_ne (tgt := 44) g dX11_reading_39 (by decide) (fun c_39 => absurd c_39 (by decide)) (fun _ => ?_)
      refine z_iconst (v := 0) g dX11_reading_42 (by decide) ?_
      exact z_iret g hrt rfl (by decide) (by decide) dX11_reading_43 ⟨by rw [hc, opV_1], by rw [hc, opS_1]; exact hM8, fr8⟩
set_option maxHeartbeats 4000000 in
set_option maxRecDepth 100000 in
theorem m_pull (E : Ev) {A : Nat → Nat} {m : Nat} {S : Ms} (M : Mm) (hM : RM A m S M) (hV : INV S) (s : Int32) : CT E yX11_pull cX11_pull 3 (some .int) 4 0 0 [.ref m, .int s] M (mAns A m (opS (cPull S s) S (sPull S s)) M (some (.int (opV (cPull S s) (vPull S s) 0)))) noX := by
  refine CT.of rfl (Nat.le_of_ble_eq_true rfl) (fun X g hrt hno hE hN hR hI => ?_)
  subst hE
  obtain ⟨v1, v2, v17, v24, v31, v36, v51, v58, v59⟩ := hV.1
  have hV0 := hV
  obtain ⟨-, vF, vN, vM, vL, vX, vP, vQ, vT, vR, vS, vO⟩ := hV
  have fr0 := FM.rf (A := A) (m := m) (M := M)
  refine z_aload_n g dX11_pull_0 rfl ?_
  refine z_iload_n g dX11_pull_1 rfl ?_
  refine z_callS g _ _ cs_X11_340 (n_isSb _ M s) rfl (by rw [hR]; decide) (by rw [hR]; decide) (by rw [hR]; decide) (Nat.le_of_ble_eq_true rfl) rfl dX11_pull_2 (fun _ _ h => False.elim h) (fun r_2 M_2 h_2 => ?_)
  obtain ⟨rfl, rfl⟩ := h_2
  refine z_if_eq (tgt := 12) g dX11_pull_5 (by decide) (fun c_5 => ?_) (fun c_5 => ?_)
  · first | rw [b2i_0] at c_5 | rw [b2i_n0] at c_5 | skip
    refine z_iconst (v := 1) g dX11_pull_12 (by decide) ?_
    have hc : cPull S s = 1 := by simp [cPull, c_5]
    refine z_callV g _ _ cv_X11_234 (n_holds _ M hM fr0 1) hM.k0 (by decide) rfl (by rw [hR]; decide) (by rw [hR]; decide) (by rw [hR]; decide) (Nat.le_of_ble_eq_true rfl) rfl dX11_pull_13 (fun _ _ h => False.elim h) (fun r_13 M1 h_13 => ?_)
    obtain ⟨rfl, hM1, fr1⟩ := h_13
    refine z_if_ne (tgt := 21) g dX11_pull_16 (by decide) (fun c_16 => absurd c_16 (by decide)) (fun _ => ?_)
    refine z_iconst (v := 0) g dX11_pull_19 (by decide) ?_
    exact z_iret g hrt rfl (by decide) (by decide) dX11_pull_20 ⟨by rw [hc, opV_1], by rw [hc, opS_1]; exact hM1, fr1⟩
  · first | rw [b2i_0] at c_5 | rw [b2i_n0] at c_5 | skip
    refine z_iconst (v := 0) g dX11_pull_8 (by decide) ?_
    refine z_goto (tgt := 13) g dX11_pull_9 (by decide) ?_
    have hc : cPull S s = 0 := by simp [cPull, c_5]
    refine z_callV g _ _ cv_X11_234 (n_holds _ M hM fr0 0) hM.k0 (by decide) rfl (by rw [hR]; decide) (by rw [hR]; decide) (by rw [hR]; decide) (Nat.le_of_ble_eq_true rfl) rfl dX11_pull_13 (fun _ _ h => False.elim h) (fun r_13 M2 h_13 => ?_)
    obtain ⟨rfl, hM2, fr2⟩ := h_13
    refine z_if_ne (tgt := 21) g dX11_pull_16 (by decide) (fun _ => ?_) (fun c_16 => absurd c_16 (by decide))
    obtain ⟨s4, hs4, rfl⟩ : ∃ s4, s4 < 4 ∧ s = nI s4 := by
      rcases in4 s with z | ⟨s4, q1, q2, -⟩
      · exact absurd z c_5
      · exact ⟨s4, q1, q2⟩
    have hs4c : (nI s4).toNatClampNeg = s4 := nI_clamp (by omega)
    refine z_aload_n g dX11_pull_21 rfl ?_
    refine z_getI g fl_X11_238 hM2.k0 (by decide) rfl dX11_pull_22 ?_
    rw [show fI _ m 1 = gi S 1 from hM2.sc (k := 1) (by decide) (by decide)]
    refine z_aload_n g dX11_pull_25 rfl ?_
    refine z_getR g fl_X11_152 hM2.k0 (by decide) rfl (hM2.ref (k := 55) (by decide)) dX11_pull_26 ?_
    refine z_iload_n g dX11_pull_29 rfl ?_
    refine z_ialdk g (hM2.kA1 (k := 55) (by decide)) (by decide) (vp_in_nI (by rw [hM2.lnI (k := 55) (by decide)]; show _ < 4; omega) (by rw [hM2.lnI (k := 55) (by decide)]; decide)) dX11_pull_30 ?_
    rw [nI_clamp (by omega), show fI _ (A 55) = gA S 55 from hM2.row (k := 55) (by decide) (by decide)]
    refine z_isub g dX11_pull_31 ?_
    refine z_istore_n g dX11_pull_32 (by rw [hN]; decide) ?_
    refine z_aload_n g dX11_pull_33 rfl ?_
    refine z_getR g fl_X11_152 hM2.k0 (by decide) rfl (hM2.ref (k := 55) (by decide)) dX11_pull_34 ?_
    refine z_iload_n g dX11_pull_37 rfl ?_
    refine z_aload_n g dX11_pull_38 rfl ?_
    refine z_getI g fl_X11_238 hM2.k0 (by decide) rfl dX11_pull_39 ?_
    rw [show fI _ m 1 = gi S 1 from hM2.sc (k := 1) (by decide) (by decide)]
    refine m_iast g hM2 fr2 55 (by decide) (by show _ < 4; omega) dX11_pull_42 (fun M3 hM3 fr3 => ?_)
    refine z_iload_n g dX11_pull_43 rfl ?_
    exact z_iret g hrt rfl (by decide) (by decide) dX11_pull_44 ⟨by rw [hc, opV_0]; rw [vPull, hs4c], by rw [hc, opS_0, sPull, hs4c]; exact hM3, fr3⟩
set_option maxHeartbeats 4000000 in
set_option maxRecDepth 100000 in
theorem m_budget (E : Ev) {A : Nat → Nat} {m : Nat} {S : Ms} (M : Mm) (hM : RM A m S M) (hV : INV S) (b : Int32) : CT E yX11_budget cX11_budget 3 (some .int) 4 0 0 [.ref m, .int b] M (mAns A m (opS (cBudget S b) S (sBudget S b)) M (some (.int (opV (cBudget S b) (vBudget S b) 0)))) noX := by
  refine CT.of rfl (Nat.le_of_ble_eq_true rfl) (fun X g hrt hno hE hN hR hI => ?_)
  subst hE
  obtain ⟨v1, v2, v17, v24, v31, v36, v51, v58, v59⟩ := hV.1
  have hV0 := hV
  obtain ⟨-, vF, vN, vM, vL, vX, vP, vQ, vT, vR, vS, vO⟩ := hV
  have fr0 := FM.rf (A := A) (m := m) (M := M)
  refine z_aload_n g dX11_budget_0 rfl ?_
  refine z_iload_n g dX11_budget_1 rfl ?_
  refine z_iconst (v := 0) g dX11_budget_2 (by decide) ?_
  refine z_bipush (v := 10) g dX11_budget_3 (by decide) ?_
  refine z_callS g _ _ cs_X11_189 (n_in _ M b 0 10) rfl (by rw [hR]; decide) (by rw [hR]; decide) (by rw [hR]; decide) (Nat.le_of_ble_eq_true rfl) rfl dX11_budget_5 (fun _ _ h => False.elim h) (fun r_5 M_5 h_5 => ?_)
  obtain ⟨rfl, rfl⟩ := h_5
  refine z_if_eq (tgt := 15) g dX11_budget_8 (by decide) (fun c_8 => ?_) (fun c_8 => ?_)
  · first | rw [b2i_0] at c_8 | rw [b2i_n0] at c_8 | skip
    refine z_iconst (v := 1) g dX11_budget_15 (by decide) ?_
    have hc : cBudget S b = 1 := by simp [cBudget, c_8]
    refine z_callV g _ _ cv_X11_234 (n_holds _ M hM fr0 1) hM.k0 (by decide) rfl (by rw [hR]; decide) (by rw [hR]; decide) (by rw [hR]; decide) (Nat.le_of_ble_eq_true rfl) rfl dX11_budget_16 (fun _ _ h => False.elim h) (fun r_16 M1 h_16 => ?_)
    obtain ⟨rfl, hM1, fr1⟩ := h_16
    refine z_if_ne (tgt := 24) g dX11_budget_19 (by decide) (fun c_19 => absurd c_19 (by decide)) (fun _ => ?_)
    refine z_iconst (v := 0) g dX11_budget_22 (by decide) ?_
    exact z_iret g hrt rfl (by decide) (by decide) dX11_budget_23 ⟨by rw [hc, opV_1], by rw [hc, opS_1]; exact hM1, fr1⟩
  · first | rw [b2i_0] at c_8 | rw [b2i_n0] at c_8 | skip
    refine z_iconst (v := 0) g dX11_budget_11 (by decide) ?_
    refine z_goto (tgt := 16) g dX11_budget_12 (by decide) ?_
    have hc : cBudget S b = 0 := by simp [cBudget, c_8]
    refine z_callV g _ _ cv_X11_234 (n_holds _ M hM fr0 0) hM.k0 (by decide) rfl (by rw [hR]; decide) (by rw [hR]; decide) (by rw [hR]; decide) (Nat.le_of_ble_eq_true rfl) rfl dX11_budget_16 (fun _ _ h => False.elim h) (fun r_16 M2 h_16 => ?_)
    obtain ⟨rfl, hM2, fr2⟩ := h_16
    refine z_if_ne (tgt := 24) g dX11_budget_19 (by decide) (fun _ => ?_) (fun c_19 => absurd c_19 (by decide))
    refine z_aload_n g dX11_budget_24 rfl ?_
    refine z_getI g fl_X11_161 hM2.k0 (by decide) rfl dX11_budget_25 ?_
    rw [show fI _ m 59 = gi S 59 from hM2.sc (k := 59) (by decide) (by decide)]
    refine z_istore_n g dX11_budget_28 (by rw [hN]; decide) ?_
    refine z_aload_n g dX11_budget_29 rfl ?_
    refine z_iload_n g dX11_budget_30 rfl ?_
    refine m_puti g hM2 fr2 (k := 59) fp_X11_161 rfl dX11_budget_31 (fun M3 hM3 fr3 => ?_)
    refine z_iload_n g dX11_budget_34 rfl ?_
    exact z_iret g hrt rfl (by decide) (by decide) dX11_budget_35 ⟨by rw [hc, opV_0]; rfl, by rw [hc, opS_0]; exact hM3, fr3⟩
set_option maxHeartbeats 4000000 in
set_option maxRecDepth 100000 in
theorem m_sign (E : Ev) {A : Nat → Nat} {m : Nat} {S : Ms} (M : Mm) (hM : RM A m S M) (hV : INV S) (f : Int32) : CT E yX11_sign cX11_sign 2 (some .long) 4 0 0 [.ref m, .int f] M (mAns A m (opS (cSign S f) S (sSign S f)) M (some (.long (opV (cSign S f) (vSign S f) 0)))) noX := by
  refine CT.of rfl (Nat.le_of_ble_eq_true rfl) (fun X g hrt hno hE hN hR hI => ?_)
  subst hE
  obtain ⟨v1, v2, v17, v24, v31, v36, v51, v58, v59⟩ := hV.1
  have hV0 := hV
  obtain ⟨-, vF, vN, vM, vL, vX, vP, vQ, vT, vR, vS, vO⟩ := hV
  have fr0 := FM.rf (A := A) (m := m) (M := M)
  rcases inN (n := cn S 2) (by have := v2.2; omega) f with hF | ⟨j, hj, rfl, hF⟩
  · rw [← v2.1] at hF
    refine z_aload_n g dX11_sign_0 rfl ?_
    refine z_aload_n g dX11_sign_1 rfl ?_
    refine z_iload_n g dX11_sign_2 rfl ?_
    refine z_callV g _ _ cv_X11_245 (n_isF _ M hM f) hM.k0 (by decide) rfl (by rw [hR]; decide) (by rw [hR]; decide) (by rw [hR]; decide) (Nat.le_of_ble_eq_true rfl) rfl dX11_sign_3 (fun _ _ h => False.elim h) (fun r_3 M_3 h_3 => ?_)
    obtain ⟨rfl, rfl⟩ := h_3
    rw [hF]
    refine z_if_eq (tgt := 13) g dX11_sign_6 (by decide) (fun _ => ?_) (fun c_6 => absurd c_6 (by decide))
    refine z_iconst (v := 1) g dX11_sign_13 (by decide) ?_
    have hc : cSign S f = 1 := by simp [cSign, isF, hF]
    refine z_callV g _ _ cv_X11_234 (n_holds _ M hM fr0 1) hM.k0 (by decide) rfl (by rw [hR]; decide) (by rw [hR]; decide) (by rw [hR]; decide) (Nat.le_of_ble_eq_true rfl) rfl dX11_sign_14 (fun _ _ h => False.elim h) (fun r_14 M1 h_14 => ?_)
    obtain ⟨rfl, hM1, fr1⟩ := h_14
    refine z_if_eq (tgt := 29) g dX11_sign_17 (by decide) (fun _ => ?_) (fun c_17 => absurd c_17 (by decide))
    refine z_lconst (v := 0) g dX11_sign_29 (by decide) ?_
    exact z_lret g hrt (by decide) (by decide) dX11_sign_30 ⟨by rw [hc, opV_1], by rw [hc, opS_1]; exact hM1, fr1⟩
  · rw [← v2.1] at hF
    have hj24 : j < 24 := by have := v2.2; omega
    refine z_aload_n g dX11_sign_0 rfl ?_
    refine z_aload_n g dX11_sign_1 rfl ?_
    refine z_iload_n g dX11_sign_2 rfl ?_
    refine z_callV g _ _ cv_X11_245 (n_isF _ M hM (nI j)) hM.k0 (by decide) rfl (by rw [hR]; decide) (by rw [hR]; decide) (by rw [hR]; decide) (Nat.le_of_ble_eq_true rfl) rfl dX11_sign_3 (fun _ _ h => False.elim h) (fun r_3 M_3 h_3 => ?_)
    obtain ⟨rfl, rfl⟩ := h_3
    rw [hF]
    have hcl : (nI j).toNatClampNeg = j := nI_clamp (by omega)
    refine z_if_eq (tgt := 13) g dX11_sign_6 (by decide) (fun c => absurd c (by decide)) (fun _ => ?_)
    refine z_iconst (v := 0) g dX11_sign_9 (by decide) ?_
    refine z_goto (tgt := 14) g dX11_sign_10 (by decide) ?_
    have hc : cSign S (nI j) = 0 := by simp [cSign, isF, hF]
    refine z_callV g _ _ cv_X11_234 (n_holds _ M hM fr0 0) hM.k0 (by decide) rfl (by rw [hR]; decide) (by rw [hR]; decide) (by rw [hR]; decide) (Nat.le_of_ble_eq_true rfl) rfl dX11_sign_14 (fun _ _ h => False.elim h) (fun r_14 M1 h_14 => ?_)
    obtain ⟨rfl, hM1, fr1⟩ := h_14
    refine z_if_eq (tgt := 29) g dX11_sign_17 (by decide) (fun c_17 => absurd c_17 (by decide)) (fun _ => ?_)
    refine z_aload_n g dX11_sign_20 rfl ?_
    refine z_getR g fl_X11_155 hM1.k0 (by decide) rfl (hM1.refL (k := 56) (by decide)) dX11_sign_21 ?_
    refine z_iload_n g dX11_sign_24 rfl ?_
    refine z_laldk g (hM1.kL1 (k := 56) (by decide)) (by decide) (vp_in_nI (by rw [hM1.lnL (k := 56) (by decide)]; show _ < 24; omega) (by rw [hM1.lnL (k := 56) (by decide)]; decide)) dX11_sign_25 ?_
    rw [nI_clamp (by omega), show fL _ (A 56) = gL S 56 from hM1.rowL (k := 56) (by decide)]
    refine z_goto (tgt := 30) g dX11_sign_26 (by decide) ?_
    exact z_lret g hrt (by decide) (by decide) dX11_sign_30 ⟨by rw [hc, opV_0]; rw [vSign, hcl], by rw [hc, opS_0]; exact hM1, fr1⟩
set_option maxHeartbeats 4000000 in
set_option maxRecDepth 100000 in
theorem m_copy (E : Ev) {A : Nat → Nat} {m : Nat} {S : Ms} (M : Mm) (hM : RM A m S M) (hV : INV S) (s f t : Int32) : CT E yX11_copy cX11_copy 5 (some .long) 5 0 0 [.ref m, .int s, .int f, .int t] M (mAns A m (opS (cCopy S s f t) S (sCopy S s f t)) M (some (.long (opV (cCopy S s f t) (vCopy S s f t) 0)))) noX := by
  refine CT.of rfl (Nat.le_of_ble_eq_true rfl) (fun X g hrt hno hE hN hR hI => ?_)
  subst hE
  obtain ⟨v1, v2, v17, v24, v31, v36, v51, v58, v59⟩ := hV.1
  have hV0 := hV
  obtain ⟨-, vF, vN, vM, vL, vX, vP, vQ, vT, vR, vS, vO⟩ := hV
  have fr0 := FM.rf (A := A) (m := m) (M := M)
  rcases inN (n := cn S 2) (by have := v2.2; omega) f with hF | ⟨j, hj, rfl, hF⟩
  · rw [← v2.1] at hF
    refine z_iload_n g dX11_copy_0 rfl ?_
    refine z_callS g _ _ cs_X11_340 (n_isSb _ M s) rfl (by rw [hR]; decide) (by rw [hR]; decide) (by rw [hR]; decide) (Nat.le_of_ble_eq_true rfl) rfl dX11_copy_1 (fun _ _ h => False.elim h) (fun r_1 M_1 h_1 => ?_)
    obtain ⟨rfl, rfl⟩ := h_1
    refine z_if_eq (tgt := 26) g dX11_copy_4 (by decide) (fun c_4 => ?_) (fun c_4 => ?_)
    · first | rw [b2i_0] at c_4 | rw [b2i_n0] at c_4 | skip
      refine z_iconst (v := 0) g dX11_copy_26 (by decide) ?_
      refine z_istore g dX11_copy_27 (by rw [hN]; decide) ?_
      refine z_aload_n g dX11_copy_29 rfl ?_
      refine z_iload g dX11_copy_30 rfl ?_
      refine z_if_eq (tgt := 39) g dX11_copy_32 (by decide) (fun _ => ?_) (fun c_32 => absurd c_32 (by decide))
      refine z_iconst (v := 1) g dX11_copy_39 (by decide) ?_
      have hc : cCopy S s f t = 1 := by simp [cCopy, isF, hF, c_4]
      refine z_callV g _ _ cv_X11_234 (n_holds _ M hM fr0 1) hM.k0 (by decide) rfl (by rw [hR]; decide) (by rw [hR]; decide) (by rw [hR]; decide) (Nat.le_of_ble_eq_true rfl) rfl dX11_copy_40 (fun _ _ h => False.elim h) (fun r_40 M1 h_40 => ?_)
      obtain ⟨rfl, hM1, fr1⟩ := h_40
      refine z_if_eq (tgt := 65) g dX11_copy_43 (by decide) (fun _ => ?_) (fun c_43 => absurd c_43 (by decide))
      refine z_lconst (v := 0) g dX11_copy_65 (by decide) ?_
      exact z_lret g hrt (by decide) (by decide) dX11_copy_66 ⟨by rw [hc, opV_1], by rw [hc, opS_1]; exact hM1, fr1⟩
    · first | rw [b2i_0] at c_4 | rw [b2i_n0] at c_4 | skip
      refine z_aload_n g dX11_copy_7 rfl ?_
      refine z_iload_n g dX11_copy_8 rfl ?_
      refine z_callV g _ _ cv_X11_245 (n_isF _ M hM f) hM.k0 (by decide) rfl (by rw [hR]; decide) (by rw [hR]; decide) (by rw [hR]; decide) (Nat.le_of_ble_eq_true rfl) rfl dX11_copy_9 (fun _ _ h => False.elim h) (fun r_9 M_9 h_9 => ?_)
      obtain ⟨rfl, rfl⟩ := h_9
      rw [hF]
      refine z_if_eq (tgt := 26) g dX11_copy_12 (by decide) (fun _ => ?_) (fun c_12 => absurd c_12 (by decide))
      refine z_iconst (v := 0) g dX11_copy_26 (by decide) ?_
      refine z_istore g dX11_copy_27 (by rw [hN]; decide) ?_
      refine z_aload_n g dX11_copy_29 rfl ?_
      refine z_iload g dX11_copy_30 rfl ?_
      refine z_if_eq (tgt := 39) g dX11_copy_32 (by decide) (fun _ => ?_) (fun c_32 => absurd c_32 (by decide))
      refine z_iconst (v := 1) g dX11_copy_39 (by decide) ?_
      have hc : cCopy S s f t = 1 := by simp [cCopy, isF, hF, c_4]
      refine z_callV g _ _ cv_X11_234 (n_holds _ M hM fr0 1) hM.k0 (by decide) rfl (by rw [hR]; decide) (by rw [hR]; decide) (by rw [hR]; decide) (Nat.le_of_ble_eq_true rfl) rfl dX11_copy_40 (fun _ _ h => False.elim h) (fun r_40 M2 h_40 => ?_)
      obtain ⟨rfl, hM2, fr2⟩ := h_40
      refine z_if_eq (tgt := 65) g dX11_copy_43 (by decide) (fun _ => ?_) (fun c_43 => absurd c_43 (by decide))
      refine z_lconst (v := 0) g dX11_copy_65 (by decide) ?_
      exact z_lret g hrt (by decide) (by decide) dX11_copy_66 ⟨by rw [hc, opV_1], by rw [hc, opS_1]; exact hM2, fr2⟩
  · rw [← v2.1] at hF
    have hj24 : j < 24 := by have := v2.2; omega
    refine z_iload_n g dX11_copy_0 rfl ?_
    refine z_callS g _ _ cs_X11_340 (n_isSb _ M s) rfl (by rw [hR]; decide) (by rw [hR]; decide) (by rw [hR]; decide) (Nat.le_of_ble_eq_true rfl) rfl dX11_copy_1 (fun _ _ h => False.elim h) (fun r_1 M_1 h_1 => ?_)
    obtain ⟨rfl, rfl⟩ := h_1
    refine z_if_eq (tgt := 26) g dX11_copy_4 (by decide) (fun c_4 => ?_) (fun c_4 => ?_)
    · first | rw [b2i_0] at c_4 | rw [b2i_n0] at c_4 | skip
      refine z_iconst (v := 0) g dX11_copy_26 (by decide) ?_
      refine z_istore g dX11_copy_27 (by rw [hN]; decide) ?_
      refine z_aload_n g dX11_copy_29 rfl ?_
      refine z_iload g dX11_copy_30 rfl ?_
      refine z_if_eq (tgt := 39) g dX11_copy_32 (by decide) (fun _ => ?_) (fun c_32 => absurd c_32 (by decide))
      refine z_iconst (v := 1) g dX11_copy_39 (by decide) ?_
      have hc : cCopy S s (nI j) t = 1 := by simp [cCopy, isF, hF, c_4]
      refine z_callV g _ _ cv_X11_234 (n_holds _ M hM fr0 1) hM.k0 (by decide) rfl (by rw [hR]; decide) (by rw [hR]; decide) (by rw [hR]; decide) (Nat.le_of_ble_eq_true rfl) rfl dX11_copy_40 (fun _ _ h => False.elim h) (fun r_40 M1 h_40 => ?_)
      obtain ⟨rfl, hM1, fr1⟩ := h_40
      refine z_if_eq (tgt := 65) g dX11_copy_43 (by decide) (fun _ => ?_) (fun c_43 => absurd c_43 (by decide))
      refine z_lconst (v := 0) g dX11_copy_65 (by decide) ?_
      exact z_lret g hrt (by decide) (by decide) dX11_copy_66 ⟨by rw [hc, opV_1], by rw [hc, opS_1]; exact hM1, fr1⟩
    · first | rw [b2i_0] at c_4 | rw [b2i_n0] at c_4 | skip
      refine z_aload_n g dX11_copy_7 rfl ?_
      refine z_iload_n g dX11_copy_8 rfl ?_
      refine z_callV g _ _ cv_X11_245 (n_isF _ M hM (nI j)) hM.k0 (by decide) rfl (by rw [hR]; decide) (by rw [hR]; decide) (by rw [hR]; decide) (Nat.le_of_ble_eq_true rfl) rfl dX11_copy_9 (fun _ _ h => False.elim h) (fun r_9 M_9 h_9 => ?_)
      obtain ⟨rfl, rfl⟩ := h_9
      rw [hF]
      refine z_if_eq (tgt := 26) g dX11_copy_12 (by decide) (fun c_12 => absurd c_12 (by decide)) (fun _ => ?_)
      refine z_iload_n g dX11_copy_15 rfl ?_
      refine z_callS g _ _ cs_X11_264 (n_isT _ M t) rfl (by rw [hR]; decide) (by rw [hR]; decide) (by rw [hR]; decide) (Nat.le_of_ble_eq_true rfl) rfl dX11_copy_16 (fun _ _ h => False.elim h) (fun r_16 M_16 h_16 => ?_)
      obtain ⟨rfl, rfl⟩ := h_16
      refine z_if_eq (tgt := 26) g dX11_copy_19 (by decide) (fun c_19 => ?_) (fun c_19 => ?_)
      · first | rw [b2i_0] at c_19 | rw [b2i_n0] at c_19 | skip
        refine z_iconst (v := 0) g dX11_copy_26 (by decide) ?_
        refine z_istore g dX11_copy_27 (by rw [hN]; decide) ?_
        refine z_aload_n g dX11_copy_29 rfl ?_
        refine z_iload g dX11_copy_30 rfl ?_
        refine z_if_eq (tgt := 39) g dX11_copy_32 (by decide) (fun _ => ?_) (fun c_32 => absurd c_32 (by decide))
        refine z_iconst (v := 1) g dX11_copy_39 (by decide) ?_
        have hc : cCopy S s (nI j) t = 1 := by simp [cCopy, isF, hF, c_4, c_19]
        refine z_callV g _ _ cv_X11_234 (n_holds _ M hM fr0 1) hM.k0 (by decide) rfl (by rw [hR]; decide) (by rw [hR]; decide) (by rw [hR]; decide) (Nat.le_of_ble_eq_true rfl) rfl dX11_copy_40 (fun _ _ h => False.elim h) (fun r_40 M2 h_40 => ?_)
        obtain ⟨rfl, hM2, fr2⟩ := h_40
        refine z_if_eq (tgt := 65) g dX11_copy_43 (by decide) (fun _ => ?_) (fun c_43 => absurd c_43 (by decide))
        refine z_lconst (v := 0) g dX11_copy_65 (by decide) ?_
        exact z_lret g hrt (by decide) (by decide) dX11_copy_66 ⟨by rw [hc, opV_1], by rw [hc, opS_1]; exact hM2, fr2⟩
      · first | rw [b2i_0] at c_19 | rw [b2i_n0] at c_19 | skip
        refine z_iconst (v := 1) g dX11_copy_22 (by decide) ?_
        refine z_goto (tgt := 27) g dX11_copy_23 (by decide) ?_
        refine z_istore g dX11_copy_27 (by rw [hN]; decide) ?_
        refine z_aload_n g dX11_copy_29 rfl ?_
        refine z_iload g dX11_copy_30 rfl ?_
        refine z_if_eq (tgt := 39) g dX11_copy_32 (by decide) (fun c_32 => absurd c_32 (by decide)) (fun _ => ?_)
        refine z_iconst (v := 0) g dX11_copy_35 (by decide) ?_
        refine z_goto (tgt := 40) g dX11_copy_36 (by decide) ?_
        have hc : cCopy S s (nI j) t = 0 := by simp [cCopy, isF, hF, c_4, c_19]
        refine z_callV g _ _ cv_X11_234 (n_holds _ M hM fr0 0) hM.k0 (by decide) rfl (by rw [hR]; decide) (by rw [hR]; decide) (by rw [hR]; decide) (Nat.le_of_ble_eq_true rfl) rfl dX11_copy_40 (fun _ _ h => False.elim h) (fun r_40 M3 h_40 => ?_)
        obtain ⟨rfl, hM3, fr3⟩ := h_40
        refine z_if_eq (tgt := 65) g dX11_copy_43 (by decide) (fun c_43 => absurd c_43 (by decide)) (fun _ => ?_)
        obtain ⟨s4, hs4, rfl⟩ : ∃ s4, s4 < 4 ∧ s = nI s4 := by
          rcases in4 s with z | ⟨s4, q1, q2, -⟩
          · exact absurd z c_4
          · exact ⟨s4, q1, q2⟩
        have hs4c : (nI s4).toNatClampNeg = s4 := nI_clamp (by omega)
        refine z_aload_n g dX11_copy_46 rfl ?_
        refine z_iload_n g dX11_copy_47 rfl ?_
        refine z_iload_n g dX11_copy_48 rfl ?_
        refine z_aload_n g dX11_copy_49 rfl ?_
        refine z_getI g fl_X11_238 hM3.k0 (by decide) rfl dX11_copy_50 ?_
        rw [show fI _ m 1 = gi S 1 from hM3.sc (k := 1) (by decide) (by decide)]
        refine z_aload_n g dX11_copy_53 rfl ?_
        refine z_getR g fl_X11_152 hM3.k0 (by decide) rfl (hM3.ref (k := 55) (by decide)) dX11_copy_54 ?_
        refine z_iload_n g dX11_copy_57 rfl ?_
        refine z_ialdk g (hM3.kA1 (k := 55) (by decide)) (by decide) (vp_in_nI (by rw [hM3.lnI (k := 55) (by decide)]; show _ < 4; omega) (by rw [hM3.lnI (k := 55) (by decide)]; decide)) dX11_copy_58 ?_
        rw [nI_clamp (by omega), show fI _ (A 55) = gA S 55 from hM3.row (k := 55) (by decide) (by decide)]
        refine z_callV g _ _ cv_X11_260 (n_frm _ M3 hM3 (OkF_wi0 hV0.OkF) j t (gi S 1) (gA S 55 s4)) hM3.k0 (by decide) rfl (by rw [hR]; decide) (by rw [hR]; decide) (by rw [hR]; decide) (Nat.le_of_ble_eq_true rfl) rfl dX11_copy_59 (fun _ _ h => False.elim h) (fun r_59 M4 h_59 => ?_)
        obtain ⟨rfl, se_59⟩ := h_59
        have hM4 := hM3.SE se_59
        have fr4 := fr3.tr se_59.FM
        rw [formA_wi0]
        refine z_goto (tgt := 66) g dX11_copy_62 (by decide) ?_
        exact z_lret g hrt (by decide) (by decide) dX11_copy_66 ⟨by rw [hc, opV_0]; rw [vCopy, hs4c], by rw [hc, opS_0]; exact hM4, fr4⟩
theorem waiL_no {S : Ms} {f : Int32} : ∀ {n : Nat}, waiL S f n = false → ∀ i, i < n → gA S 57 i ≠ f
  | 0, _, i, h => absurd h (Nat.not_lt_zero i)
  | n + 1, h, i, hi => by
    rw [waiL, Bool.or_eq_false_iff] at h
    rcases Nat.lt_or_ge i n with z | z
    · exact waiL_no h.1 i z
    · rw [show i = n by omega]; exact of_decide_eq_false h.2
/-- different features below n: at most n -/
theorem pig : ∀ (n : Nat) (l : List Nat), l.Nodup → (∀ x ∈ l, x < n) → l.length ≤ n
  | 0, l, _, h => by
    cases l with
    | nil => exact Nat.le_refl _
    | cons x l => exact absurd (h x List.mem_cons_self) (Nat.not_lt_zero x)
  | n + 1, l, hd, h => by
    have h1 := pig n (l.erase n) (hd.erase n) (fun x hx => by
      have h2 := h x (List.mem_of_mem_erase hx)
      have h3 : x ≠ n := fun z => by rw [z] at hx; exact absurd hx (hd.not_mem_erase)
      omega)
    have h4 := List.length_erase (a := n) (l := l)
    split at h4 <;> omega
theorem ordLt {S : Ms} (hV : INV S) {j : Nat} (hj : j < cn S 2) (hw : waiL S (nI j) (cn S 58) = false) : cn S 58 < 24 := by
  obtain ⟨⟨-, v2, -, -, -, -, -, v58, -⟩, -, -, -, -, -, -, -, -, -, -, hO, hD⟩ := hV
  have h1 := v2.2
  have h2 := v58.2
  rcases Nat.lt_or_ge (cn S 58) 24 with z | z
  · exact z
  · exfalso
    have hn := waiL_no hw
    have h3 := pig 24 (j :: (List.range (cn S 58)).map (fun i => ca S 57 i)) (by
      rw [List.nodup_cons]
      refine ⟨fun hm => ?_, ?_⟩
      · obtain ⟨i, hi, e⟩ := List.mem_map.mp hm
        have hi2 := List.mem_range.mp hi
        exact hn i hi2 (by rw [(hO i hi2).1.1, e])
      · unfold List.Nodup
        rw [List.pairwise_map]
        exact List.pairwise_lt_range.imp_of_mem (fun {a b} _ hb hab => hD a b hab (List.mem_range.mp hb))) (fun x hx => by
      rcases List.mem_cons.mp hx with e | e
      · omega
      · obtain ⟨i, hi, e⟩ := List.mem_map.mp e
        have := (hO i (List.mem_range.mp hi)).1.2
        omega)
    simp at h3
    omega
set_option maxHeartbeats 4000000 in
set_option maxRecDepth 100000 in
theorem m_order (E : Ev) {A : Nat → Nat} {m : Nat} {S : Ms} (M : Mm) (hM : RM A m S M) (hV : INV S) (f : Int32) : CT E yX11_order cX11_order 4 (some .int) 4 0 0 [.ref m, .int f] M (mAns A m (opS (cOrder S f) S (sOrder S f)) M (some (.int (opV (cOrder S f) (vOrder S f) 0)))) noX := by
  refine CT.of rfl (Nat.le_of_ble_eq_true rfl) (fun X g hrt hno hE hN hR hI => ?_)
  subst hE
  obtain ⟨v1, v2, v17, v24, v31, v36, v51, v58, v59⟩ := hV.1
  have hV0 := hV
  obtain ⟨-, vF, vN, vM, vL, vX, vP, vQ, vT, vR, vS, vO⟩ := hV
  have fr0 := FM.rf (A := A) (m := m) (M := M)
  have hb58 := v58.2
  have tail : ∀ (b : Bool) (x : Int32) (hx : x = b2i b) (hw : waiL S f (cn S 58) = b), Z X M 0 0 38 [(0, .ref m), (1, .int f), (2, .int x)] [] := by
    intro b x hx hw
    rcases inN (n := cn S 2) (by have := v2.2; omega) f with hF | ⟨j, hj, rfl, hF⟩
    · rw [← v2.1] at hF
      cases b
      · subst hx; show Z X M 0 0 38 [(0, .ref m), (1, .int f), (2, .int 0)] []
        refine z_aload_n g dX11_order_38 rfl ?_
        refine z_aload_n g dX11_order_39 rfl ?_
        refine z_iload_n g dX11_order_40 rfl ?_
        refine z_callV g _ _ cv_X11_245 (n_isF _ M hM f) hM.k0 (by decide) rfl (by rw [hR]; decide) (by rw [hR]; decide) (by rw [hR]; decide) (Nat.le_of_ble_eq_true rfl) rfl dX11_order_41 (fun _ _ h => False.elim h) (fun r_41 M_41 h_41 => ?_)
        obtain ⟨rfl, rfl⟩ := h_41
        rw [hF]
        refine z_if_ne (tgt := 51) g dX11_order_44 (by decide) (fun c_44 => absurd c_44 (by decide)) (fun _ => ?_)
        refine z_iconst (v := 1) g dX11_order_47 (by decide) ?_
        refine z_goto (tgt := 60) g dX11_order_48 (by decide) ?_
        have hc : cOrder S f = 1 := by simp [cOrder, isF, hF, hw]
        refine z_callV g _ _ cv_X11_234 (n_holds _ M hM fr0 1) hM.k0 (by decide) rfl (by rw [hR]; decide) (by rw [hR]; decide) (by rw [hR]; decide) (Nat.le_of_ble_eq_true rfl) rfl dX11_order_60 (fun _ _ h => False.elim h) (fun r_60 M1 h_60 => ?_)
        obtain ⟨rfl, hM1, fr1⟩ := h_60
        refine z_if_ne (tgt := 68) g dX11_order_63 (by decide) (fun c_63 => absurd c_63 (by decide)) (fun _ => ?_)
        refine z_iconst (v := 0) g dX11_order_66 (by decide) ?_
        exact z_iret g hrt rfl (by decide) (by decide) dX11_order_67 ⟨by rw [hc, opV_1], by rw [hc, opS_1]; exact hM1, fr1⟩
      · subst hx; show Z X M 0 0 38 [(0, .ref m), (1, .int f), (2, .int 1)] []
        refine z_aload_n g dX11_order_38 rfl ?_
        refine z_aload_n g dX11_order_39 rfl ?_
        refine z_iload_n g dX11_order_40 rfl ?_
        refine z_callV g _ _ cv_X11_245 (n_isF _ M hM f) hM.k0 (by decide) rfl (by rw [hR]; decide) (by rw [hR]; decide) (by rw [hR]; decide) (Nat.le_of_ble_eq_true rfl) rfl dX11_order_41 (fun _ _ h => False.elim h) (fun r_41 M_41 h_41 => ?_)
        obtain ⟨rfl, rfl⟩ := h_41
        rw [hF]
        refine z_if_ne (tgt := 51) g dX11_order_44 (by decide) (fun c_44 => absurd c_44 (by decide)) (fun _ => ?_)
        refine z_iconst (v := 1) g dX11_order_47 (by decide) ?_
        refine z_goto (tgt := 60) g dX11_order_48 (by decide) ?_
        have hc : cOrder S f = 1 := by simp [cOrder, isF, hF, hw]
        refine z_callV g _ _ cv_X11_234 (n_holds _ M hM fr0 1) hM.k0 (by decide) rfl (by rw [hR]; decide) (by rw [hR]; decide) (by rw [hR]; decide) (Nat.le_of_ble_eq_true rfl) rfl dX11_order_60 (fun _ _ h => False.elim h) (fun r_60 M1 h_60 => ?_)
        obtain ⟨rfl, hM1, fr1⟩ := h_60
        refine z_if_ne (tgt := 68) g dX11_order_63 (by decide) (fun c_63 => absurd c_63 (by decide)) (fun _ => ?_)
        refine z_iconst (v := 0) g dX11_order_66 (by decide) ?_
        exact z_iret g hrt rfl (by decide) (by decide) dX11_order_67 ⟨by rw [hc, opV_1], by rw [hc, opS_1]; exact hM1, fr1⟩
    · rw [← v2.1] at hF
      have hj24 : j < 24 := by have := v2.2; omega
      cases b
      · subst hx; show Z X M 0 0 38 [(0, .ref m), (1, .int (nI j)), (2, .int 0)] []
        refine z_aload_n g dX11_order_38 rfl ?_
        refine z_aload_n g dX11_order_39 rfl ?_
        refine z_iload_n g dX11_order_40 rfl ?_
        refine z_callV g _ _ cv_X11_245 (n_isF _ M hM (nI j)) hM.k0 (by decide) rfl (by rw [hR]; decide) (by rw [hR]; decide) (by rw [hR]; decide) (Nat.le_of_ble_eq_true rfl) rfl dX11_order_41 (fun _ _ h => False.elim h) (fun r_41 M_41 h_41 => ?_)
        obtain ⟨rfl, rfl⟩ := h_41
        rw [hF]
        refine z_if_ne (tgt := 51) g dX11_order_44 (by decide) (fun _ => ?_) (fun c_44 => absurd c_44 (by decide))
        refine z_iload_n g dX11_order_51 rfl ?_
        refine z_if_eq (tgt := 59) g dX11_order_52 (by decide) (fun _ => ?_) (fun c_52 => absurd c_52 (by decide))
        refine z_iconst (v := 0) g dX11_order_59 (by decide) ?_
        have hc : cOrder S (nI j) = 0 := by simp [cOrder, isF, hF, hw]
        refine z_callV g _ _ cv_X11_234 (n_holds _ M hM fr0 0) hM.k0 (by decide) rfl (by rw [hR]; decide) (by rw [hR]; decide) (by rw [hR]; decide) (Nat.le_of_ble_eq_true rfl) rfl dX11_order_60 (fun _ _ h => False.elim h) (fun r_60 M1 h_60 => ?_)
        obtain ⟨rfl, hM1, fr1⟩ := h_60
        refine z_if_ne (tgt := 68) g dX11_order_63 (by decide) (fun _ => ?_) (fun c_63 => absurd c_63 (by decide))
        have hn24 : cn S 58 < 24 := ordLt hV0 hj hw
        refine z_aload_n g dX11_order_68 rfl ?_
        refine z_getR g fl_X11_158 hM1.k0 (by decide) rfl (hM1.ref (k := 57) (by decide)) dX11_order_69 ?_
        refine z_aload_n g dX11_order_72 rfl ?_
        refine z_getI g fl_X11_343 hM1.k0 (by decide) rfl dX11_order_73 ?_
        rw [show fI _ m 58 = gi S 58 from hM1.sc (k := 58) (by decide) (by decide), v58.1]
        refine z_iload_n g dX11_order_76 rfl ?_
        refine m_iast g hM1 fr1 57 (by decide) (by show _ < 24; omega) dX11_order_77 (fun M2 hM2 fr2 => ?_)
        refine z_aload_n g dX11_order_78 rfl ?_
        refine z_dup g dX11_order_79 rfl ?_
        refine z_getI g fl_X11_343 hM2.k0 (by decide) rfl dX11_order_80 ?_
        rw [show fI _ m 58 = gi S 58 from hM2.sc (k := 58) (by decide) (by decide)]
        refine z_iconst (v := 1) g dX11_order_83 (by decide) ?_
        refine z_iadd g dX11_order_84 ?_
        refine m_puti g hM2 fr2 (k := 58) fp_X11_343 rfl dX11_order_85 (fun M3 hM3 fr3 => ?_)
        refine z_aload_n g dX11_order_88 rfl ?_
        refine z_getI g fl_X11_343 hM3.k0 (by decide) rfl dX11_order_89 ?_
        rw [show fI _ m 58 = gi S 58 + 1 from hM3.sc (k := 58) (by decide) (by decide), v58.1, nI_s]
        exact z_iret g hrt rfl (by decide) (by decide) dX11_order_92 ⟨by rw [hc, opV_0]; rfl, by rw [hc, opS_0]; exact hM3, fr3⟩
      · subst hx; show Z X M 0 0 38 [(0, .ref m), (1, .int (nI j)), (2, .int 1)] []
        refine z_aload_n g dX11_order_38 rfl ?_
        refine z_aload_n g dX11_order_39 rfl ?_
        refine z_iload_n g dX11_order_40 rfl ?_
        refine z_callV g _ _ cv_X11_245 (n_isF _ M hM (nI j)) hM.k0 (by decide) rfl (by rw [hR]; decide) (by rw [hR]; decide) (by rw [hR]; decide) (Nat.le_of_ble_eq_true rfl) rfl dX11_order_41 (fun _ _ h => False.elim h) (fun r_41 M_41 h_41 => ?_)
        obtain ⟨rfl, rfl⟩ := h_41
        rw [hF]
        refine z_if_ne (tgt := 51) g dX11_order_44 (by decide) (fun _ => ?_) (fun c_44 => absurd c_44 (by decide))
        refine z_iload_n g dX11_order_51 rfl ?_
        refine z_if_eq (tgt := 59) g dX11_order_52 (by decide) (fun c_52 => absurd c_52 (by decide)) (fun _ => ?_)
        refine z_iconst (v := 2) g dX11_order_55 (by decide) ?_
        refine z_goto (tgt := 60) g dX11_order_56 (by decide) ?_
        have hc : cOrder S (nI j) = 2 := by simp [cOrder, isF, hF, hw]
        refine z_callV g _ _ cv_X11_234 (n_holds _ M hM fr0 2) hM.k0 (by decide) rfl (by rw [hR]; decide) (by rw [hR]; decide) (by rw [hR]; decide) (Nat.le_of_ble_eq_true rfl) rfl dX11_order_60 (fun _ _ h => False.elim h) (fun r_60 M1 h_60 => ?_)
        obtain ⟨rfl, hM1, fr1⟩ := h_60
        refine z_if_ne (tgt := 68) g dX11_order_63 (by decide) (fun c_63 => absurd c_63 (by decide)) (fun _ => ?_)
        refine z_iconst (v := 0) g dX11_order_66 (by decide) ?_
        exact z_iret g hrt rfl (by decide) (by decide) dX11_order_67 ⟨by rw [hc, opV_2], by rw [hc, opS_2]; exact hM1, fr1⟩
  have loop : ∀ (k k_ : Nat) (b : Bool) (hk : k + k_ = cn S 58) (hb : waiL S f k_ = b), Z X M 0 0 4 [(0, .ref m), (1, .int f), (2, .int (b2i b)), (3, .int (nI k_))] [] := by
    intro k
    induction k using Nat.strongRecOn with
    | _ k ih =>
      intro k_ b hk hb
      cases b
      · show Z X M 0 0 4 [(0, .ref m), (1, .int f), (2, .int 0), (3, .int (nI k_))] []
        refine z_iload_n g dX11_order_4 rfl ?_
        refine z_aload_n g dX11_order_5 rfl ?_
        refine z_getI g fl_X11_343 hM.k0 (by decide) rfl dX11_order_6 ?_
        rw [show fI _ m 58 = gi S 58 from hM.sc (k := 58) (by decide) (by decide), v58.1]
        refine z_icmp_ge (tgt := 38) g dX11_order_9 (by decide) (fun c_9 => ?_) (fun c_9 => ?_)
        · rw [nI_leI (by omega) (by omega)] at c_9
          exact z_to (tail false 0 rfl (by rw [show cn S 58 = k_ by omega]; exact hb)) ⟨rfl, rfl, rfl, trivial⟩
        have h9 : k_ < cn S 58 := by rw [nI_leI (by omega) (by omega)] at c_9; omega
        refine z_iload_n g dX11_order_12 rfl ?_
        refine z_if_ne (tgt := 26) g dX11_order_13 (by decide) (fun c_13 => absurd c_13 (by decide)) (fun _ => ?_)
        refine z_aload_n g dX11_order_16 rfl ?_
        refine z_getR g fl_X11_158 hM.k0 (by decide) rfl (hM.ref (k := 57) (by decide)) dX11_order_17 ?_
        refine z_iload_n g dX11_order_20 rfl ?_
        refine z_ialdk g (hM.kA1 (k := 57) (by decide)) (by decide) (vp_in_nI (by rw [hM.lnI (k := 57) (by decide)]; show _ < 24; omega) (by rw [hM.lnI (k := 57) (by decide)]; decide)) dX11_order_21 ?_
        rw [nI_clamp (by omega), show fI _ (A 57) = gA S 57 from hM.row (k := 57) (by decide) (by decide)]
        refine z_iload_n g dX11_order_22 rfl ?_
        refine z_icmp_ne (tgt := 30) g dX11_order_23 (by decide) (fun c_23 => ?_) (fun c_23 => ?_)
        · refine z_iconst (v := 0) g dX11_order_30 (by decide) ?_
          refine z_istore_n g dX11_order_31 (by rw [hN]; decide) ?_
          refine z_iinc1 g dX11_order_32 rfl (by rw [hN]; decide) ?_
          refine z_goto (tgt := 4) g dX11_order_35 (by decide) ?_
          rw [nI_s]
          exact z_to (ih (k - 1) (by omega) (k_ + 1) false (by omega) (by rw [waiL, hb]; simp [eq_false c_23])) ⟨rfl, rfl, rfl, rfl, trivial⟩
        · refine z_iconst (v := 1) g dX11_order_26 (by decide) ?_
          refine z_goto (tgt := 31) g dX11_order_27 (by decide) ?_
          refine z_istore_n g dX11_order_31 (by rw [hN]; decide) ?_
          refine z_iinc1 g dX11_order_32 rfl (by rw [hN]; decide) ?_
          refine z_goto (tgt := 4) g dX11_order_35 (by decide) ?_
          rw [nI_s]
          exact z_to (ih (k - 1) (by omega) (k_ + 1) true (by omega) (by rw [waiL, hb]; simp [eq_true c_23])) ⟨rfl, rfl, rfl, rfl, trivial⟩
      · show Z X M 0 0 4 [(0, .ref m), (1, .int f), (2, .int 1), (3, .int (nI k_))] []
        refine z_iload_n g dX11_order_4 rfl ?_
        refine z_aload_n g dX11_order_5 rfl ?_
        refine z_getI g fl_X11_343 hM.k0 (by decide) rfl dX11_order_6 ?_
        rw [show fI _ m 58 = gi S 58 from hM.sc (k := 58) (by decide) (by decide), v58.1]
        refine z_icmp_ge (tgt := 38) g dX11_order_9 (by decide) (fun c_9 => ?_) (fun c_9 => ?_)
        · rw [nI_leI (by omega) (by omega)] at c_9
          exact z_to (tail true 1 rfl (by rw [show cn S 58 = k_ by omega]; exact hb)) ⟨rfl, rfl, rfl, trivial⟩
        have h9 : k_ < cn S 58 := by rw [nI_leI (by omega) (by omega)] at c_9; omega
        refine z_iload_n g dX11_order_12 rfl ?_
        refine z_if_ne (tgt := 26) g dX11_order_13 (by decide) (fun _ => ?_) (fun c_13 => absurd c_13 (by decide))
        refine z_iconst (v := 1) g dX11_order_26 (by decide) ?_
        refine z_goto (tgt := 31) g dX11_order_27 (by decide) ?_
        refine z_istore_n g dX11_order_31 (by rw [hN]; decide) ?_
        refine z_iinc1 g dX11_order_32 rfl (by rw [hN]; decide) ?_
        refine z_goto (tgt := 4) g dX11_order_35 (by decide) ?_
        rw [nI_s]
        exact z_to (ih (k - 1) (by omega) (k_ + 1) true (by omega) (by rw [waiL, hb]; rfl)) ⟨rfl, rfl, rfl, rfl, trivial⟩
  refine z_iconst (v := 0) g dX11_order_0 (by decide) ?_
  refine z_istore_n g dX11_order_1 (by rw [hN]; decide) ?_
  refine z_iconst (v := 0) g dX11_order_2 (by decide) ?_
  refine z_istore_n g dX11_order_3 (by rw [hN]; decide) ?_
  exact z_to (loop _ 0 false rfl rfl) ⟨rfl, rfl, rfl, rfl, trivial⟩
