/-! ===== the model: of, names, laws, exceptions, petitions told (printed by gen/mod_d6.py) ===== -/
set_option maxHeartbeats 4000000 in
set_option maxRecDepth 100000 in
theorem n_tells (E : Ev) {A : Nat → Nat} {m : Nat} {S : Ms} {M0 : Mm} (M : Mm) (hM : RM A m S M) (fr : FM A m M0 M) (h17 : gi S 17 = nI (cn S 17)) (hn100 : cn S 17 < 100) (f t : Int32) (w : Int64) (d : Int32) : CT E yX11_tells cX11_tells 6 (some .int) 1 0 0 [.ref m, .int f, .int t, .long w, .int d] M (mAns A m (sTells S f t w d) M0 (some (.int (nI (cn S 17 + 1))))) noX := by
  refine CT.of rfl (Nat.le_of_ble_eq_true rfl) (fun X g hrt hno hE hN hR hI => ?_)
  subst hE
  refine z_aload_n g dX11_tells_0 rfl ?_
  refine z_getR g fl_X11_52 hM.k0 (by decide) rfl (hM.ref (k := 18) (by decide)) dX11_tells_1 ?_
  refine z_aload_n g dX11_tells_4 rfl ?_
  refine z_getI g fl_X11_201 hM.k0 (by decide) rfl dX11_tells_5 ?_
  rw [show fI _ m 17 = gi S 17 from hM.sc (k := 17) (by decide) (by decide), h17]
  refine z_iload_n g dX11_tells_8 rfl ?_
  refine m_iast g hM fr 18 (by decide) (by show _ < 100; omega) dX11_tells_9 (fun M1 hM1 fr1 => ?_)
  refine z_aload_n g dX11_tells_10 rfl ?_
  refine z_getR g fl_X11_55 hM1.k0 (by decide) rfl (hM1.ref (k := 19) (by decide)) dX11_tells_11 ?_
  refine z_aload_n g dX11_tells_14 rfl ?_
  refine z_getI g fl_X11_201 hM1.k0 (by decide) rfl dX11_tells_15 ?_
  rw [show fI _ m 17 = gi S 17 from hM1.sc (k := 17) (by decide) (by decide), h17]
  refine z_iload_n g dX11_tells_18 rfl ?_
  refine m_iast g hM1 fr1 19 (by decide) (by show _ < 100; omega) dX11_tells_19 (fun M2 hM2 fr2 => ?_)
  refine z_aload_n g dX11_tells_20 rfl ?_
  refine z_getR g fl_X11_58 hM2.k0 (by decide) rfl (hM2.refL (k := 20) (by decide)) dX11_tells_21 ?_
  refine z_aload_n g dX11_tells_24 rfl ?_
  refine z_getI g fl_X11_201 hM2.k0 (by decide) rfl dX11_tells_25 ?_
  rw [show fI _ m 17 = gi S 17 from hM2.sc (k := 17) (by decide) (by decide), h17]
  refine z_lload_n g dX11_tells_28 rfl ?_
  refine m_last g hM2 fr2 20 (by decide) (by show _ < 100; omega) dX11_tells_29 (fun M3 hM3 fr3 => ?_)
  refine z_aload_n g dX11_tells_30 rfl ?_
  refine z_getR g fl_X11_62 hM3.k0 (by decide) rfl (hM3.ref (k := 21) (by decide)) dX11_tells_31 ?_
  refine z_aload_n g dX11_tells_34 rfl ?_
  refine z_getI g fl_X11_201 hM3.k0 (by decide) rfl dX11_tells_35 ?_
  rw [show fI _ m 17 = gi S 17 from hM3.sc (k := 17) (by decide) (by decide), h17]
  refine z_iload g dX11_tells_38 rfl ?_
  refine m_iast g hM3 fr3 21 (by decide) (by show _ < 100; omega) dX11_tells_40 (fun M4 hM4 fr4 => ?_)
  refine z_aload_n g dX11_tells_41 rfl ?_
  refine z_getR g fl_X11_65 hM4.k0 (by decide) rfl (hM4.ref (k := 22) (by decide)) dX11_tells_42 ?_
  refine z_aload_n g dX11_tells_45 rfl ?_
  refine z_getI g fl_X11_201 hM4.k0 (by decide) rfl dX11_tells_46 ?_
  rw [show fI _ m 17 = gi S 17 from hM4.sc (k := 17) (by decide) (by decide), h17]
  refine z_aload_n g dX11_tells_49 rfl ?_
  refine z_getI g fl_X11_238 hM4.k0 (by decide) rfl dX11_tells_50 ?_
  rw [show fI _ m 1 = gi S 1 from hM4.sc (k := 1) (by decide) (by decide)]
  refine m_iast g hM4 fr4 22 (by decide) (by show _ < 100; omega) dX11_tells_53 (fun M5 hM5 fr5 => ?_)
  refine z_aload_n g dX11_tells_54 rfl ?_
  refine z_getR g fl_X11_68 hM5.k0 (by decide) rfl (hM5.ref (k := 23) (by decide)) dX11_tells_55 ?_
  refine z_aload_n g dX11_tells_58 rfl ?_
  refine z_getI g fl_X11_201 hM5.k0 (by decide) rfl dX11_tells_59 ?_
  rw [show fI _ m 17 = gi S 17 from hM5.sc (k := 17) (by decide) (by decide), h17]
  refine z_iconst (v := (-1)) g dX11_tells_62 (by decide) ?_
  refine m_iast g hM5 fr5 23 (by decide) (by show _ < 100; omega) dX11_tells_63 (fun M6 hM6 fr6 => ?_)
  refine z_aload_n g dX11_tells_64 rfl ?_
  refine z_dup g dX11_tells_65 rfl ?_
  refine z_getI g fl_X11_201 hM6.k0 (by decide) rfl dX11_tells_66 ?_
  rw [show fI _ m 17 = gi S 17 from hM6.sc (k := 17) (by decide) (by decide)]
  refine z_iconst (v := 1) g dX11_tells_69 (by decide) ?_
  refine z_iadd g dX11_tells_70 ?_
  refine m_puti g hM6 fr6 (k := 17) fp_X11_201 rfl dX11_tells_71 (fun M7 hM7 fr7 => ?_)
  refine z_aload_n g dX11_tells_74 rfl ?_
  refine z_getI g fl_X11_201 hM7.k0 (by decide) rfl dX11_tells_75 ?_
  rw [show fI _ m 17 = gi S 17 + 1 from hM7.sc (k := 17) (by decide) (by decide), h17, nI_s]
  exact z_iret g hrt rfl (by decide) (by decide) dX11_tells_78 ⟨rfl, hM7, fr7⟩
set_option maxHeartbeats 4000000 in
set_option maxRecDepth 100000 in
theorem m_of (E : Ev) {A : Nat → Nat} {m : Nat} {S : Ms} (M : Mm) (hM : RM A m S M) (hV : INV S) (f w d k : Int32) : CT E yX11_of cX11_of 6 (some .int) 6 0 0 [.ref m, .int f, .int w, .int d, .int k] M (mAns A m (opS (cOf S f w d k) S (sOf S f w d k)) M (some (.int (opV (cOf S f w d k) (vOf S f w d k) 0)))) noX := by
  refine CT.of rfl (Nat.le_of_ble_eq_true rfl) (fun X g hrt hno hE hN hR hI => ?_)
  subst hE
  obtain ⟨v1, v2, v17, v24, v31, v36, v51, v58, v59⟩ := hV.1
  have hV0 := hV
  obtain ⟨-, vF, vN, vM, vL, vX, vP, vQ, vT, vR, vS, vO⟩ := hV
  have fr0 := FM.rf (A := A) (m := m) (M := M)
  rcases inN (n := cn S 2) (by have := v2.2; omega) f with hF | ⟨j, hj, rfl, hF⟩
  · rw [← v2.1] at hF
    refine z_aload_n g dX11_of_0 rfl ?_
    refine z_aload_n g dX11_of_1 rfl ?_
    refine z_iload_n g dX11_of_2 rfl ?_
    refine z_callV g _ _ cv_X11_245 (n_isF _ M hM f) hM.k0 (by decide) rfl (by rw [hR]; decide) (by rw [hR]; decide) (by rw [hR]; decide) (Nat.le_of_ble_eq_true rfl) rfl dX11_of_3 (fun _ _ h => False.elim h) (fun r_3 M_3 h_3 => ?_)
    obtain ⟨rfl, rfl⟩ := h_3
    rw [hF]
    refine z_if_ne (tgt := 13) g dX11_of_6 (by decide) (fun c_6 => absurd c_6 (by decide)) (fun _ => ?_)
    refine z_iconst (v := 1) g dX11_of_9 (by decide) ?_
    refine z_goto (tgt := 42) g dX11_of_10 (by decide) ?_
    have hc : cOf S f w d k = 1 := by simp [cOf, isF, hF]
    refine z_callV g _ _ cv_X11_234 (n_holds _ M hM fr0 1) hM.k0 (by decide) rfl (by rw [hR]; decide) (by rw [hR]; decide) (by rw [hR]; decide) (Nat.le_of_ble_eq_true rfl) rfl dX11_of_42 (fun _ _ h => False.elim h) (fun r_42 M1 h_42 => ?_)
    obtain ⟨rfl, hM1, fr1⟩ := h_42
    refine z_if_ne (tgt := 50) g dX11_of_45 (by decide) (fun c_45 => absurd c_45 (by decide)) (fun _ => ?_)
    refine z_iconst (v := 0) g dX11_of_48 (by decide) ?_
    exact z_iret g hrt rfl (by decide) (by decide) dX11_of_49 ⟨by rw [hc, opV_1], by rw [hc, opS_1]; exact hM1, fr1⟩
  · rw [← v2.1] at hF
    have hj24 : j < 24 := by have := v2.2; omega
    refine z_aload_n g dX11_of_0 rfl ?_
    refine z_aload_n g dX11_of_1 rfl ?_
    refine z_iload_n g dX11_of_2 rfl ?_
    refine z_callV g _ _ cv_X11_245 (n_isF _ M hM (nI j)) hM.k0 (by decide) rfl (by rw [hR]; decide) (by rw [hR]; decide) (by rw [hR]; decide) (Nat.le_of_ble_eq_true rfl) rfl dX11_of_3 (fun _ _ h => False.elim h) (fun r_3 M_3 h_3 => ?_)
    obtain ⟨rfl, rfl⟩ := h_3
    rw [hF]
    have hcl : (nI j).toNatClampNeg = j := nI_clamp (by omega)
    refine z_if_ne (tgt := 13) g dX11_of_6 (by decide) (fun _ => ?_) (fun c => absurd c (by decide))
    refine z_iload_n g dX11_of_13 rfl ?_
    refine z_iconst (v := 0) g dX11_of_14 (by decide) ?_
    refine z_iconst (v := 4) g dX11_of_15 (by decide) ?_
    refine z_callS g _ _ cs_X11_189 (n_in _ M w 0 4) rfl (by rw [hR]; decide) (by rw [hR]; decide) (by rw [hR]; decide) (Nat.le_of_ble_eq_true rfl) rfl dX11_of_16 (fun _ _ h => False.elim h) (fun r_16 M_16 h_16 => ?_)
    obtain ⟨rfl, rfl⟩ := h_16
    refine z_if_eq (tgt := 41) g dX11_of_19 (by decide) (fun c_19 => ?_) (fun c_19 => ?_)
    · first | rw [b2i_0] at c_19 | rw [b2i_n0] at c_19 | skip
      refine z_iconst (v := 2) g dX11_of_41 (by decide) ?_
      have hc : cOf S (nI j) w d k = 2 := by simp [cOf, isF, hF, c_19]
      refine z_callV g _ _ cv_X11_234 (n_holds _ M hM fr0 2) hM.k0 (by decide) rfl (by rw [hR]; decide) (by rw [hR]; decide) (by rw [hR]; decide) (Nat.le_of_ble_eq_true rfl) rfl dX11_of_42 (fun _ _ h => False.elim h) (fun r_42 M1 h_42 => ?_)
      obtain ⟨rfl, hM1, fr1⟩ := h_42
      refine z_if_ne (tgt := 50) g dX11_of_45 (by decide) (fun c_45 => absurd c_45 (by decide)) (fun _ => ?_)
      refine z_iconst (v := 0) g dX11_of_48 (by decide) ?_
      exact z_iret g hrt rfl (by decide) (by decide) dX11_of_49 ⟨by rw [hc, opV_2], by rw [hc, opS_2]; exact hM1, fr1⟩
    · first | rw [b2i_0] at c_19 | rw [b2i_n0] at c_19 | skip
      refine z_iload_n g dX11_of_22 rfl ?_
      refine z_callS g _ _ cs_X11_248 (n_isD _ M d) rfl (by rw [hR]; decide) (by rw [hR]; decide) (by rw [hR]; decide) (Nat.le_of_ble_eq_true rfl) rfl dX11_of_23 (fun _ _ h => False.elim h) (fun r_23 M_23 h_23 => ?_)
      obtain ⟨rfl, rfl⟩ := h_23
      refine z_if_eq (tgt := 41) g dX11_of_26 (by decide) (fun c_26 => ?_) (fun c_26 => ?_)
      · first | rw [b2i_0] at c_26 | rw [b2i_n0] at c_26 | skip
        refine z_iconst (v := 2) g dX11_of_41 (by decide) ?_
        have hc : cOf S (nI j) w d k = 2 := by simp [cOf, isF, hF, c_19, c_26]
        refine z_callV g _ _ cv_X11_234 (n_holds _ M hM fr0 2) hM.k0 (by decide) rfl (by rw [hR]; decide) (by rw [hR]; decide) (by rw [hR]; decide) (Nat.le_of_ble_eq_true rfl) rfl dX11_of_42 (fun _ _ h => False.elim h) (fun r_42 M2 h_42 => ?_)
        obtain ⟨rfl, hM2, fr2⟩ := h_42
        refine z_if_ne (tgt := 50) g dX11_of_45 (by decide) (fun c_45 => absurd c_45 (by decide)) (fun _ => ?_)
        refine z_iconst (v := 0) g dX11_of_48 (by decide) ?_
        exact z_iret g hrt rfl (by decide) (by decide) dX11_of_49 ⟨by rw [hc, opV_2], by rw [hc, opS_2]; exact hM2, fr2⟩
      · first | rw [b2i_0] at c_26 | rw [b2i_n0] at c_26 | skip
        refine z_iload g dX11_of_29 rfl ?_
        refine z_callS g _ _ cs_X11_248 (n_isD _ M k) rfl (by rw [hR]; decide) (by rw [hR]; decide) (by rw [hR]; decide) (Nat.le_of_ble_eq_true rfl) rfl dX11_of_31 (fun _ _ h => False.elim h) (fun r_31 M_31 h_31 => ?_)
        obtain ⟨rfl, rfl⟩ := h_31
        refine z_if_eq (tgt := 41) g dX11_of_34 (by decide) (fun c_34 => ?_) (fun c_34 => ?_)
        · first | rw [b2i_0] at c_34 | rw [b2i_n0] at c_34 | skip
          refine z_iconst (v := 2) g dX11_of_41 (by decide) ?_
          have hc : cOf S (nI j) w d k = 2 := by simp [cOf, isF, hF, c_19, c_26, c_34]
          refine z_callV g _ _ cv_X11_234 (n_holds _ M hM fr0 2) hM.k0 (by decide) rfl (by rw [hR]; decide) (by rw [hR]; decide) (by rw [hR]; decide) (Nat.le_of_ble_eq_true rfl) rfl dX11_of_42 (fun _ _ h => False.elim h) (fun r_42 M3 h_42 => ?_)
          obtain ⟨rfl, hM3, fr3⟩ := h_42
          refine z_if_ne (tgt := 50) g dX11_of_45 (by decide) (fun c_45 => absurd c_45 (by decide)) (fun _ => ?_)
          refine z_iconst (v := 0) g dX11_of_48 (by decide) ?_
          exact z_iret g hrt rfl (by decide) (by decide) dX11_of_49 ⟨by rw [hc, opV_2], by rw [hc, opS_2]; exact hM3, fr3⟩
        · first | rw [b2i_0] at c_34 | rw [b2i_n0] at c_34 | skip
          refine z_iconst (v := 0) g dX11_of_37 (by decide) ?_
          refine z_goto (tgt := 42) g dX11_of_38 (by decide) ?_
          have hc : cOf S (nI j) w d k = 0 := by simp [cOf, isF, hF, c_19, c_26, c_34]
          refine z_callV g _ _ cv_X11_234 (n_holds _ M hM fr0 0) hM.k0 (by decide) rfl (by rw [hR]; decide) (by rw [hR]; decide) (by rw [hR]; decide) (Nat.le_of_ble_eq_true rfl) rfl dX11_of_42 (fun _ _ h => False.elim h) (fun r_42 M4 h_42 => ?_)
          obtain ⟨rfl, hM4, fr4⟩ := h_42
          refine z_if_ne (tgt := 50) g dX11_of_45 (by decide) (fun _ => ?_) (fun c_45 => absurd c_45 (by decide))
          refine z_aload_n g dX11_of_50 rfl ?_
          refine z_iload_n g dX11_of_51 rfl ?_
          refine z_iload_n g dX11_of_52 rfl ?_
          refine z_iload g dX11_of_53 rfl ?_
          have hp5 := (vF j hj).2.2.1
          refine z_callV g _ _ cv_X11_251 (n_plA _ M4 hM4 j hj24 hp5.1 hp5.2 d k) hM4.k0 (by decide) rfl (by rw [hR]; decide) (by rw [hR]; decide) (by rw [hR]; decide) (Nat.le_of_ble_eq_true rfl) rfl dX11_of_55 (fun _ _ h => False.elim h) (fun r_55 M_55 h_55 => ?_)
          obtain ⟨rfl, rfl⟩ := h_55
          rw [show plA (wi S 0 0) j d k = plA S j d k from rfl]
          rcases hpl : plA S j d k with _ | q
          · show Z X _ _ _ _ _ [.int (-1)]
            refine z_istore g dX11_of_58 (by rw [hN]; decide) ?_
            refine z_iload_n g dX11_of_60 rfl ?_
            refine z_iconst (v := 3) g dX11_of_61 (by decide) ?_
            refine z_icmp_ge (tgt := 121) g dX11_of_62 (by decide) (fun c_62 => ?_) (fun c_62 => ?_)
            · refine z_iload_n g dX11_of_121 rfl ?_
              refine z_iconst (v := 3) g dX11_of_122 (by decide) ?_
              refine z_icmp_ne (tgt := 137) g dX11_of_123 (by decide) (fun c_123 => ?_) (fun c_123 => ?_)
              · refine z_aload_n g dX11_of_137 rfl ?_
                refine z_iload_n g dX11_of_138 rfl ?_
                refine z_iload_n g dX11_of_139 rfl ?_
                refine z_iload g dX11_of_140 rfl ?_
                refine z_callV g _ _ cv_X11_198 (n_enA _ M4 hM4 j hj24 d k) hM4.k0 (by decide) rfl (by rw [hR]; decide) (by rw [hR]; decide) (by rw [hR]; decide) (Nat.le_of_ble_eq_true rfl) rfl dX11_of_142 (fun _ _ h => False.elim h) (fun r_142 M_142 h_142 => ?_)
                obtain ⟨rfl, rfl⟩ := h_142
                rw [show enA (wi S 0 0) j d k = enA S j d k from rfl]
                refine z_if_eq (tgt := 157) g dX11_of_145 (by decide) (fun c_145 => ?_) (fun c_145 => ?_)
                · first | rw [b2i_0] at c_145 | rw [b2i_n0] at c_145 | skip
                  refine z_iconst (v := (-1)) g dX11_of_157 (by decide) ?_
                  exact z_iret g hrt rfl (by decide) (by decide) dX11_of_158 ⟨by rw [hc, opV_0]; simp [vOf, hcl, hpl, c_19, c_26, c_34, eq_true c_62, eq_false c_123, c_145], by rw [hc, opS_0]; exact hM4, fr4⟩
                · first | rw [b2i_0] at c_145 | rw [b2i_n0] at c_145 | skip
                  refine z_aload_n g dX11_of_148 rfl ?_
                  refine z_getR g fl_X11_46 hM4.k0 (by decide) rfl (hM4.ref (k := 15) (by decide)) dX11_of_149 ?_
                  refine z_iload_n g dX11_of_152 rfl ?_
                  refine z_ialdk g (hM4.kA1 (k := 15) (by decide)) (by decide) (vp_in_nI (by rw [hM4.lnI (k := 15) (by decide)]; show _ < 24; omega) (by rw [hM4.lnI (k := 15) (by decide)]; decide)) dX11_of_153 ?_
                  rw [nI_clamp (by omega), show fI _ (A 15) = gA S 15 from hM4.row (k := 15) (by decide) (by decide)]
                  refine z_goto (tgt := 158) g dX11_of_154 (by decide) ?_
                  exact z_iret g hrt rfl (by decide) (by decide) dX11_of_158 ⟨by rw [hc, opV_0]; simp [vOf, hcl, hpl, c_19, c_26, c_34, eq_true c_62, eq_false c_123, c_145], by rw [hc, opS_0]; exact hM4, fr4⟩
              · refine z_aload_n g dX11_of_126 rfl ?_
                refine z_iload_n g dX11_of_127 rfl ?_
                refine z_iload_n g dX11_of_128 rfl ?_
                refine z_iload g dX11_of_129 rfl ?_
                refine z_callV g _ _ cv_X11_257 (n_whA _ M4 hM4 j hj24 (vF j hj).2.2.2.2.1.1 (vF j hj).2.2.2.2.1.2 d k) hM4.k0 (by decide) rfl (by rw [hR]; decide) (by rw [hR]; decide) (by rw [hR]; decide) (Nat.le_of_ble_eq_true rfl) rfl dX11_of_131 (fun _ _ h => False.elim h) (fun r_131 M_131 h_131 => ?_)
                obtain ⟨rfl, rfl⟩ := h_131
                rw [show whA (wi S 0 0) j d k = whA S j d k from rfl]
                refine z_goto (tgt := 158) g dX11_of_134 (by decide) ?_
                exact z_iret g hrt rfl (by decide) (by decide) dX11_of_158 ⟨by rw [hc, opV_0]; simp [vOf, hcl, hpl, c_19, c_26, c_34, eq_true c_62, eq_true c_123], by rw [hc, opS_0]; exact hM4, fr4⟩
            · refine z_iload_n g dX11_of_65 rfl ?_
              refine z_if_ne (tgt := 88) g dX11_of_66 (by decide) (fun c_66 => ?_) (fun c_66 => ?_)
              · refine z_iload g dX11_of_88 rfl ?_
                refine z_iconst (v := (-1)) g dX11_of_90 (by decide) ?_
                refine z_icmp_ne (tgt := 98) g dX11_of_91 (by decide) (fun c_91 => (by exact absurd rfl c_91)) (fun c_91 => ?_)
                refine z_iconst (v := (-1)) g dX11_of_94 (by decide) ?_
                refine z_goto (tgt := 120) g dX11_of_95 (by decide) ?_
                exact z_iret g hrt rfl (by decide) (by decide) dX11_of_120 ⟨by rw [hc, opV_0]; simp [vOf, hcl, hpl, c_19, c_26, c_34, eq_false c_62, eq_false c_66, c_91], by rw [hc, opS_0]; exact hM4, fr4⟩
              · refine z_aload_n g dX11_of_69 rfl ?_
                refine z_iload_n g dX11_of_70 rfl ?_
                refine z_iload_n g dX11_of_71 rfl ?_
                refine z_iload g dX11_of_72 rfl ?_
                refine z_callV g _ _ cv_X11_254 (n_thA _ M4 hM4 j hj24 d k) hM4.k0 (by decide) rfl (by rw [hR]; decide) (by rw [hR]; decide) (by rw [hR]; decide) (Nat.le_of_ble_eq_true rfl) rfl dX11_of_74 (fun _ _ h => False.elim h) (fun r_74 M_74 h_74 => ?_)
                obtain ⟨rfl, rfl⟩ := h_74
                rw [show thA (wi S 0 0) j d k = thA S j d k from rfl]
                refine z_if_eq (tgt := 84) g dX11_of_77 (by decide) (fun c_77 => ?_) (fun c_77 => ?_)
                · first | rw [b2i_0] at c_77 | rw [b2i_n0] at c_77 | skip
                  refine z_iconst (v := 0) g dX11_of_84 (by decide) ?_
                  refine z_goto (tgt := 120) g dX11_of_85 (by decide) ?_
                  exact z_iret g hrt rfl (by decide) (by decide) dX11_of_120 ⟨by rw [hc, opV_0]; simp [vOf, hcl, hpl, c_19, c_26, c_34, eq_false c_62, eq_true c_66, c_77], by rw [hc, opS_0]; exact hM4, fr4⟩
                · first | rw [b2i_0] at c_77 | rw [b2i_n0] at c_77 | skip
                  refine z_iconst (v := 1) g dX11_of_80 (by decide) ?_
                  refine z_goto (tgt := 120) g dX11_of_81 (by decide) ?_
                  exact z_iret g hrt rfl (by decide) (by decide) dX11_of_120 ⟨by rw [hc, opV_0]; simp [vOf, hcl, hpl, c_19, c_26, c_34, eq_false c_62, eq_true c_66, c_77], by rw [hc, opS_0]; exact hM4, fr4⟩
          · have hq := (bst_mem hpl).1
            have hq40 := hp5.2
            show Z X _ _ _ _ _ [.int (nI (40 * j + q))]
            refine z_istore g dX11_of_58 (by rw [hN]; decide) ?_
            refine z_iload_n g dX11_of_60 rfl ?_
            refine z_iconst (v := 3) g dX11_of_61 (by decide) ?_
            refine z_icmp_ge (tgt := 121) g dX11_of_62 (by decide) (fun c_62 => ?_) (fun c_62 => ?_)
            · refine z_iload_n g dX11_of_121 rfl ?_
              refine z_iconst (v := 3) g dX11_of_122 (by decide) ?_
              refine z_icmp_ne (tgt := 137) g dX11_of_123 (by decide) (fun c_123 => ?_) (fun c_123 => ?_)
              · refine z_aload_n g dX11_of_137 rfl ?_
                refine z_iload_n g dX11_of_138 rfl ?_
                refine z_iload_n g dX11_of_139 rfl ?_
                refine z_iload g dX11_of_140 rfl ?_
                refine z_callV g _ _ cv_X11_198 (n_enA _ M4 hM4 j hj24 d k) hM4.k0 (by decide) rfl (by rw [hR]; decide) (by rw [hR]; decide) (by rw [hR]; decide) (Nat.le_of_ble_eq_true rfl) rfl dX11_of_142 (fun _ _ h => False.elim h) (fun r_142 M_142 h_142 => ?_)
                obtain ⟨rfl, rfl⟩ := h_142
                rw [show enA (wi S 0 0) j d k = enA S j d k from rfl]
                refine z_if_eq (tgt := 157) g dX11_of_145 (by decide) (fun c_145 => ?_) (fun c_145 => ?_)
                · first | rw [b2i_0] at c_145 | rw [b2i_n0] at c_145 | skip
                  refine z_iconst (v := (-1)) g dX11_of_157 (by decide) ?_
                  exact z_iret g hrt rfl (by decide) (by decide) dX11_of_158 ⟨by rw [hc, opV_0]; simp [vOf, hcl, hpl, c_19, c_26, c_34, eq_true c_62, eq_false c_123, c_145], by rw [hc, opS_0]; exact hM4, fr4⟩
                · first | rw [b2i_0] at c_145 | rw [b2i_n0] at c_145 | skip
                  refine z_aload_n g dX11_of_148 rfl ?_
                  refine z_getR g fl_X11_46 hM4.k0 (by decide) rfl (hM4.ref (k := 15) (by decide)) dX11_of_149 ?_
                  refine z_iload_n g dX11_of_152 rfl ?_
                  refine z_ialdk g (hM4.kA1 (k := 15) (by decide)) (by decide) (vp_in_nI (by rw [hM4.lnI (k := 15) (by decide)]; show _ < 24; omega) (by rw [hM4.lnI (k := 15) (by decide)]; decide)) dX11_of_153 ?_
                  rw [nI_clamp (by omega), show fI _ (A 15) = gA S 15 from hM4.row (k := 15) (by decide) (by decide)]
                  refine z_goto (tgt := 158) g dX11_of_154 (by decide) ?_
                  exact z_iret g hrt rfl (by decide) (by decide) dX11_of_158 ⟨by rw [hc, opV_0]; simp [vOf, hcl, hpl, c_19, c_26, c_34, eq_true c_62, eq_false c_123, c_145], by rw [hc, opS_0]; exact hM4, fr4⟩
              · refine z_aload_n g dX11_of_126 rfl ?_
                refine z_iload_n g dX11_of_127 rfl ?_
                refine z_iload_n g dX11_of_128 rfl ?_
                refine z_iload g dX11_of_129 rfl ?_
                refine z_callV g _ _ cv_X11_257 (n_whA _ M4 hM4 j hj24 (vF j hj).2.2.2.2.1.1 (vF j hj).2.2.2.2.1.2 d k) hM4.k0 (by decide) rfl (by rw [hR]; decide) (by rw [hR]; decide) (by rw [hR]; decide) (Nat.le_of_ble_eq_true rfl) rfl dX11_of_131 (fun _ _ h => False.elim h) (fun r_131 M_131 h_131 => ?_)
                obtain ⟨rfl, rfl⟩ := h_131
                rw [show whA (wi S 0 0) j d k = whA S j d k from rfl]
                refine z_goto (tgt := 158) g dX11_of_134 (by decide) ?_
                exact z_iret g hrt rfl (by decide) (by decide) dX11_of_158 ⟨by rw [hc, opV_0]; simp [vOf, hcl, hpl, c_19, c_26, c_34, eq_true c_62, eq_true c_123], by rw [hc, opS_0]; exact hM4, fr4⟩
            · refine z_iload_n g dX11_of_65 rfl ?_
              refine z_if_ne (tgt := 88) g dX11_of_66 (by decide) (fun c_66 => ?_) (fun c_66 => ?_)
              · refine z_iload g dX11_of_88 rfl ?_
                refine z_iconst (v := (-1)) g dX11_of_90 (by decide) ?_
                refine z_icmp_ne (tgt := 98) g dX11_of_91 (by decide) (fun c_91 => ?_) (fun c_91 => (by exact absurd c_91 (m1_ne (by omega))))
                refine z_iload_n g dX11_of_98 rfl ?_
                refine z_iconst (v := 1) g dX11_of_99 (by decide) ?_
                refine z_icmp_ne (tgt := 113) g dX11_of_100 (by decide) (fun c_100 => ?_) (fun c_100 => ?_)
                · refine z_aload_n g dX11_of_113 rfl ?_
                  refine z_getR g fl_X11_22 hM4.k0 (by decide) rfl (hM4.ref (k := 7) (by decide)) dX11_of_114 ?_
                  refine z_iload g dX11_of_117 rfl ?_
                  refine z_ialdk g (hM4.kA1 (k := 7) (by decide)) (by decide) (vp_in_nI (by rw [hM4.lnI (k := 7) (by decide)]; show _ < 960; omega) (by rw [hM4.lnI (k := 7) (by decide)]; decide)) dX11_of_119 ?_
                  rw [nI_clamp (by omega), show fI _ (A 7) = gA S 7 from hM4.row (k := 7) (by decide) (by decide)]
                  exact z_iret g hrt rfl (by decide) (by decide) dX11_of_120 ⟨by rw [hc, opV_0]; simp [vOf, hcl, hpl, c_19, c_26, c_34, eq_false c_62, eq_false c_66, c_91, eq_false c_100], by rw [hc, opS_0]; exact hM4, fr4⟩
                · refine z_aload_n g dX11_of_103 rfl ?_
                  refine z_getR g fl_X11_19 hM4.k0 (by decide) rfl (hM4.ref (k := 6) (by decide)) dX11_of_104 ?_
                  refine z_iload g dX11_of_107 rfl ?_
                  refine z_ialdk g (hM4.kA1 (k := 6) (by decide)) (by decide) (vp_in_nI (by rw [hM4.lnI (k := 6) (by decide)]; show _ < 960; omega) (by rw [hM4.lnI (k := 6) (by decide)]; decide)) dX11_of_109 ?_
                  rw [nI_clamp (by omega), show fI _ (A 6) = gA S 6 from hM4.row (k := 6) (by decide) (by decide)]
                  refine z_goto (tgt := 120) g dX11_of_110 (by decide) ?_
                  exact z_iret g hrt rfl (by decide) (by decide) dX11_of_120 ⟨by rw [hc, opV_0]; simp [vOf, hcl, hpl, c_19, c_26, c_34, eq_false c_62, eq_false c_66, c_91, eq_true c_100], by rw [hc, opS_0]; exact hM4, fr4⟩
              · refine z_aload_n g dX11_of_69 rfl ?_
                refine z_iload_n g dX11_of_70 rfl ?_
                refine z_iload_n g dX11_of_71 rfl ?_
                refine z_iload g dX11_of_72 rfl ?_
                refine z_callV g _ _ cv_X11_254 (n_thA _ M4 hM4 j hj24 d k) hM4.k0 (by decide) rfl (by rw [hR]; decide) (by rw [hR]; decide) (by rw [hR]; decide) (Nat.le_of_ble_eq_true rfl) rfl dX11_of_74 (fun _ _ h => False.elim h) (fun r_74 M_74 h_74 => ?_)
                obtain ⟨rfl, rfl⟩ := h_74
                rw [show thA (wi S 0 0) j d k = thA S j d k from rfl]
                refine z_if_eq (tgt := 84) g dX11_of_77 (by decide) (fun c_77 => ?_) (fun c_77 => ?_)
                · first | rw [b2i_0] at c_77 | rw [b2i_n0] at c_77 | skip
                  refine z_iconst (v := 0) g dX11_of_84 (by decide) ?_
                  refine z_goto (tgt := 120) g dX11_of_85 (by decide) ?_
                  exact z_iret g hrt rfl (by decide) (by decide) dX11_of_120 ⟨by rw [hc, opV_0]; simp [vOf, hcl, hpl, c_19, c_26, c_34, eq_false c_62, eq_true c_66, c_77], by rw [hc, opS_0]; exact hM4, fr4⟩
                · first | rw [b2i_0] at c_77 | rw [b2i_n0] at c_77 | skip
                  refine z_iconst (v := 1) g dX11_of_80 (by decide) ?_
                  refine z_goto (tgt := 120) g dX11_of_81 (by decide) ?_
                  exact z_iret g hrt rfl (by decide) (by decide) dX11_of_120 ⟨by rw [hc, opV_0]; simp [vOf, hcl, hpl, c_19, c_26, c_34, eq_false c_62, eq_true c_66, c_77], by rw [hc, opS_0]; exact hM4, fr4⟩
set_option maxHeartbeats 4000000 in
set_option maxRecDepth 100000 in
theorem m_law (E : Ev) {A : Nat → Nat} {m : Nat} {S : Ms} (M : Mm) (hM : RM A m S M) (hV : INV S) (t d l a b : Int32) : CT E yX11_law cX11_law 7 (some .int) 4 0 0 [.ref m, .int t, .int d, .int l, .int a, .int b] M (mAns A m (opS (cLawc S t d l a b) S (sLawc S t d l a b)) M (some (.int (opV (cLawc S t d l a b) (vLawc S t d l a b) 0)))) noX := by
  refine CT.of rfl (Nat.le_of_ble_eq_true rfl) (fun X g hrt hno hE hN hR hI => ?_)
  subst hE
  obtain ⟨v1, v2, v17, v24, v31, v36, v51, v58, v59⟩ := hV.1
  have hV0 := hV
  obtain ⟨-, vF, vN, vM, vL, vX, vP, vQ, vT, vR, vS, vO⟩ := hV
  have fr0 := FM.rf (A := A) (m := m) (M := M)
  refine z_iload_n g dX11_law_0 rfl ?_
  refine z_callS g _ _ cs_X11_248 (n_isD _ M d) rfl (by rw [hR]; decide) (by rw [hR]; decide) (by rw [hR]; decide) (Nat.le_of_ble_eq_true rfl) rfl dX11_law_1 (fun _ _ h => False.elim h) (fun r_1 M_1 h_1 => ?_)
  obtain ⟨rfl, rfl⟩ := h_1
  refine z_if_eq (tgt := 53) g dX11_law_4 (by decide) (fun c_4 => ?_) (fun c_4 => ?_)
  · first | rw [b2i_0] at c_4 | rw [b2i_n0] at c_4 | skip
    refine z_iconst (v := 0) g dX11_law_53 (by decide) ?_
    refine z_istore g dX11_law_54 (by rw [hN]; decide) ?_
    refine z_aload_n g dX11_law_56 rfl ?_
    refine z_iload_n g dX11_law_57 rfl ?_
    refine z_callS g _ _ cs_X11_264 (n_isT _ M t) rfl (by rw [hR]; decide) (by rw [hR]; decide) (by rw [hR]; decide) (Nat.le_of_ble_eq_true rfl) rfl dX11_law_58 (fun _ _ h => False.elim h) (fun r_58 M_58 h_58 => ?_)
    obtain ⟨rfl, rfl⟩ := h_58
    refine z_if_ne (tgt := 68) g dX11_law_61 (by decide) (fun c_61 => ?_) (fun c_61 => ?_)
    · first | rw [b2i_0] at c_61 | rw [b2i_n0] at c_61 | skip
      refine z_iload g dX11_law_68 rfl ?_
      refine z_if_ne (tgt := 77) g dX11_law_70 (by decide) (fun c_70 => absurd c_70 (by decide)) (fun _ => ?_)
      refine z_iconst (v := 2) g dX11_law_73 (by decide) ?_
      refine z_goto (tgt := 91) g dX11_law_74 (by decide) ?_
      have hc : cLawc S t d l a b = 2 := by simp [cLawc, c_4, c_61]
      refine z_callV g _ _ cv_X11_234 (n_holds _ M hM fr0 2) hM.k0 (by decide) rfl (by rw [hR]; decide) (by rw [hR]; decide) (by rw [hR]; decide) (Nat.le_of_ble_eq_true rfl) rfl dX11_law_91 (fun _ _ h => False.elim h) (fun r_91 M1 h_91 => ?_)
      obtain ⟨rfl, hM1, fr1⟩ := h_91
      refine z_if_ne (tgt := 99) g dX11_law_94 (by decide) (fun c_94 => absurd c_94 (by decide)) (fun _ => ?_)
      refine z_iconst (v := 0) g dX11_law_97 (by decide) ?_
      exact z_iret g hrt rfl (by decide) (by decide) dX11_law_98 ⟨by rw [hc, opV_2], by rw [hc, opS_2]; exact hM1, fr1⟩
    · first | rw [b2i_0] at c_61 | rw [b2i_n0] at c_61 | skip
      refine z_iconst (v := 1) g dX11_law_64 (by decide) ?_
      refine z_goto (tgt := 91) g dX11_law_65 (by decide) ?_
      have hc : cLawc S t d l a b = 1 := by simp [cLawc, c_4, c_61]
      refine z_callV g _ _ cv_X11_234 (n_holds _ M hM fr0 1) hM.k0 (by decide) rfl (by rw [hR]; decide) (by rw [hR]; decide) (by rw [hR]; decide) (Nat.le_of_ble_eq_true rfl) rfl dX11_law_91 (fun _ _ h => False.elim h) (fun r_91 M2 h_91 => ?_)
      obtain ⟨rfl, hM2, fr2⟩ := h_91
      refine z_if_ne (tgt := 99) g dX11_law_94 (by decide) (fun c_94 => absurd c_94 (by decide)) (fun _ => ?_)
      refine z_iconst (v := 0) g dX11_law_97 (by decide) ?_
      exact z_iret g hrt rfl (by decide) (by decide) dX11_law_98 ⟨by rw [hc, opV_1], by rw [hc, opS_1]; exact hM2, fr2⟩
  · first | rw [b2i_0] at c_4 | rw [b2i_n0] at c_4 | skip
    refine z_iload_n g dX11_law_7 rfl ?_
    refine z_iconst (v := 1) g dX11_law_8 (by decide) ?_
    refine z_bipush (v := 26) g dX11_law_9 (by decide) ?_
    refine z_callS g _ _ cs_X11_189 (n_in _ M l 1 26) rfl (by rw [hR]; decide) (by rw [hR]; decide) (by rw [hR]; decide) (Nat.le_of_ble_eq_true rfl) rfl dX11_law_11 (fun _ _ h => False.elim h) (fun r_11 M_11 h_11 => ?_)
    obtain ⟨rfl, rfl⟩ := h_11
    refine z_if_eq (tgt := 53) g dX11_law_14 (by decide) (fun c_14 => ?_) (fun c_14 => ?_)
    · first | rw [b2i_0] at c_14 | rw [b2i_n0] at c_14 | skip
      refine z_iconst (v := 0) g dX11_law_53 (by decide) ?_
      refine z_istore g dX11_law_54 (by rw [hN]; decide) ?_
      refine z_aload_n g dX11_law_56 rfl ?_
      refine z_iload_n g dX11_law_57 rfl ?_
      refine z_callS g _ _ cs_X11_264 (n_isT _ M t) rfl (by rw [hR]; decide) (by rw [hR]; decide) (by rw [hR]; decide) (Nat.le_of_ble_eq_true rfl) rfl dX11_law_58 (fun _ _ h => False.elim h) (fun r_58 M_58 h_58 => ?_)
      obtain ⟨rfl, rfl⟩ := h_58
      refine z_if_ne (tgt := 68) g dX11_law_61 (by decide) (fun c_61 => ?_) (fun c_61 => ?_)
      · first | rw [b2i_0] at c_61 | rw [b2i_n0] at c_61 | skip
        refine z_iload g dX11_law_68 rfl ?_
        refine z_if_ne (tgt := 77) g dX11_law_70 (by decide) (fun c_70 => absurd c_70 (by decide)) (fun _ => ?_)
        refine z_iconst (v := 2) g dX11_law_73 (by decide) ?_
        refine z_goto (tgt := 91) g dX11_law_74 (by decide) ?_
        have hc : cLawc S t d l a b = 2 := by simp [cLawc, c_4, c_14, c_61]
        refine z_callV g _ _ cv_X11_234 (n_holds _ M hM fr0 2) hM.k0 (by decide) rfl (by rw [hR]; decide) (by rw [hR]; decide) (by rw [hR]; decide) (Nat.le_of_ble_eq_true rfl) rfl dX11_law_91 (fun _ _ h => False.elim h) (fun r_91 M3 h_91 => ?_)
        obtain ⟨rfl, hM3, fr3⟩ := h_91
        refine z_if_ne (tgt := 99) g dX11_law_94 (by decide) (fun c_94 => absurd c_94 (by decide)) (fun _ => ?_)
        refine z_iconst (v := 0) g dX11_law_97 (by decide) ?_
        exact z_iret g hrt rfl (by decide) (by decide) dX11_law_98 ⟨by rw [hc, opV_2], by rw [hc, opS_2]; exact hM3, fr3⟩
      · first | rw [b2i_0] at c_61 | rw [b2i_n0] at c_61 | skip
        refine z_iconst (v := 1) g dX11_law_64 (by decide) ?_
        refine z_goto (tgt := 91) g dX11_law_65 (by decide) ?_
        have hc : cLawc S t d l a b = 1 := by simp [cLawc, c_4, c_14, c_61]
        refine z_callV g _ _ cv_X11_234 (n_holds _ M hM fr0 1) hM.k0 (by decide) rfl (by rw [hR]; decide) (by rw [hR]; decide) (by rw [hR]; decide) (Nat.le_of_ble_eq_true rfl) rfl dX11_law_91 (fun _ _ h => False.elim h) (fun r_91 M4 h_91 => ?_)
        obtain ⟨rfl, hM4, fr4⟩ := h_91
        refine z_if_ne (tgt := 99) g dX11_law_94 (by decide) (fun c_94 => absurd c_94 (by decide)) (fun _ => ?_)
        refine z_iconst (v := 0) g dX11_law_97 (by decide) ?_
        exact z_iret g hrt rfl (by decide) (by decide) dX11_law_98 ⟨by rw [hc, opV_1], by rw [hc, opS_1]; exact hM4, fr4⟩
    · first | rw [b2i_0] at c_14 | rw [b2i_n0] at c_14 | skip
      refine z_iload g dX11_law_17 rfl ?_
      refine z_iconst (v := 0) g dX11_law_19 (by decide) ?_
      refine z_bipush (v := 26) g dX11_law_20 (by decide) ?_
      refine z_callS g _ _ cs_X11_189 (n_in _ M a 0 26) rfl (by rw [hR]; decide) (by rw [hR]; decide) (by rw [hR]; decide) (Nat.le_of_ble_eq_true rfl) rfl dX11_law_22 (fun _ _ h => False.elim h) (fun r_22 M_22 h_22 => ?_)
      obtain ⟨rfl, rfl⟩ := h_22
      refine z_if_eq (tgt := 53) g dX11_law_25 (by decide) (fun c_25 => ?_) (fun c_25 => ?_)
      · first | rw [b2i_0] at c_25 | rw [b2i_n0] at c_25 | skip
        refine z_iconst (v := 0) g dX11_law_53 (by decide) ?_
        refine z_istore g dX11_law_54 (by rw [hN]; decide) ?_
        refine z_aload_n g dX11_law_56 rfl ?_
        refine z_iload_n g dX11_law_57 rfl ?_
        refine z_callS g _ _ cs_X11_264 (n_isT _ M t) rfl (by rw [hR]; decide) (by rw [hR]; decide) (by rw [hR]; decide) (Nat.le_of_ble_eq_true rfl) rfl dX11_law_58 (fun _ _ h => False.elim h) (fun r_58 M_58 h_58 => ?_)
        obtain ⟨rfl, rfl⟩ := h_58
        refine z_if_ne (tgt := 68) g dX11_law_61 (by decide) (fun c_61 => ?_) (fun c_61 => ?_)
        · first | rw [b2i_0] at c_61 | rw [b2i_n0] at c_61 | skip
          refine z_iload g dX11_law_68 rfl ?_
          refine z_if_ne (tgt := 77) g dX11_law_70 (by decide) (fun c_70 => absurd c_70 (by decide)) (fun _ => ?_)
          refine z_iconst (v := 2) g dX11_law_73 (by decide) ?_
          refine z_goto (tgt := 91) g dX11_law_74 (by decide) ?_
          have hc : cLawc S t d l a b = 2 := by simp [cLawc, c_4, c_14, c_25, c_61]
          refine z_callV g _ _ cv_X11_234 (n_holds _ M hM fr0 2) hM.k0 (by decide) rfl (by rw [hR]; decide) (by rw [hR]; decide) (by rw [hR]; decide) (Nat.le_of_ble_eq_true rfl) rfl dX11_law_91 (fun _ _ h => False.elim h) (fun r_91 M5 h_91 => ?_)
          obtain ⟨rfl, hM5, fr5⟩ := h_91
          refine z_if_ne (tgt := 99) g dX11_law_94 (by decide) (fun c_94 => absurd c_94 (by decide)) (fun _ => ?_)
          refine z_iconst (v := 0) g dX11_law_97 (by decide) ?_
          exact z_iret g hrt rfl (by decide) (by decide) dX11_law_98 ⟨by rw [hc, opV_2], by rw [hc, opS_2]; exact hM5, fr5⟩
        · first | rw [b2i_0] at c_61 | rw [b2i_n0] at c_61 | skip
          refine z_iconst (v := 1) g dX11_law_64 (by decide) ?_
          refine z_goto (tgt := 91) g dX11_law_65 (by decide) ?_
          have hc : cLawc S t d l a b = 1 := by simp [cLawc, c_4, c_14, c_25, c_61]
          refine z_callV g _ _ cv_X11_234 (n_holds _ M hM fr0 1) hM.k0 (by decide) rfl (by rw [hR]; decide) (by rw [hR]; decide) (by rw [hR]; decide) (Nat.le_of_ble_eq_true rfl) rfl dX11_law_91 (fun _ _ h => False.elim h) (fun r_91 M6 h_91 => ?_)
          obtain ⟨rfl, hM6, fr6⟩ := h_91
          refine z_if_ne (tgt := 99) g dX11_law_94 (by decide) (fun c_94 => absurd c_94 (by decide)) (fun _ => ?_)
          refine z_iconst (v := 0) g dX11_law_97 (by decide) ?_
          exact z_iret g hrt rfl (by decide) (by decide) dX11_law_98 ⟨by rw [hc, opV_1], by rw [hc, opS_1]; exact hM6, fr6⟩
      · first | rw [b2i_0] at c_25 | rw [b2i_n0] at c_25 | skip
        refine z_iload g dX11_law_28 rfl ?_
        refine z_iconst (v := 0) g dX11_law_30 (by decide) ?_
        refine z_bipush (v := 26) g dX11_law_31 (by decide) ?_
        refine z_callS g _ _ cs_X11_189 (n_in _ M b 0 26) rfl (by rw [hR]; decide) (by rw [hR]; decide) (by rw [hR]; decide) (Nat.le_of_ble_eq_true rfl) rfl dX11_law_33 (fun _ _ h => False.elim h) (fun r_33 M_33 h_33 => ?_)
        obtain ⟨rfl, rfl⟩ := h_33
        refine z_if_eq (tgt := 53) g dX11_law_36 (by decide) (fun c_36 => ?_) (fun c_36 => ?_)
        · first | rw [b2i_0] at c_36 | rw [b2i_n0] at c_36 | skip
          refine z_iconst (v := 0) g dX11_law_53 (by decide) ?_
          refine z_istore g dX11_law_54 (by rw [hN]; decide) ?_
          refine z_aload_n g dX11_law_56 rfl ?_
          refine z_iload_n g dX11_law_57 rfl ?_
          refine z_callS g _ _ cs_X11_264 (n_isT _ M t) rfl (by rw [hR]; decide) (by rw [hR]; decide) (by rw [hR]; decide) (Nat.le_of_ble_eq_true rfl) rfl dX11_law_58 (fun _ _ h => False.elim h) (fun r_58 M_58 h_58 => ?_)
          obtain ⟨rfl, rfl⟩ := h_58
          refine z_if_ne (tgt := 68) g dX11_law_61 (by decide) (fun c_61 => ?_) (fun c_61 => ?_)
          · first | rw [b2i_0] at c_61 | rw [b2i_n0] at c_61 | skip
            refine z_iload g dX11_law_68 rfl ?_
            refine z_if_ne (tgt := 77) g dX11_law_70 (by decide) (fun c_70 => absurd c_70 (by decide)) (fun _ => ?_)
            refine z_iconst (v := 2) g dX11_law_73 (by decide) ?_
            refine z_goto (tgt := 91) g dX11_law_74 (by decide) ?_
            have hc : cLawc S t d l a b = 2 := by simp [cLawc, c_4, c_14, c_25, c_36, c_61]
            refine z_callV g _ _ cv_X11_234 (n_holds _ M hM fr0 2) hM.k0 (by decide) rfl (by rw [hR]; decide) (by rw [hR]; decide) (by rw [hR]; decide) (Nat.le_of_ble_eq_true rfl) rfl dX11_law_91 (fun _ _ h => False.elim h) (fun r_91 M7 h_91 => ?_)
            obtain ⟨rfl, hM7, fr7⟩ := h_91
            refine z_if_ne (tgt := 99) g dX11_law_94 (by decide) (fun c_94 => absurd c_94 (by decide)) (fun _ => ?_)
            refine z_iconst (v := 0) g dX11_law_97 (by decide) ?_
            exact z_iret g hrt rfl (by decide) (by decide) dX11_law_98 ⟨by rw [hc, opV_2], by rw [hc, opS_2]; exact hM7, fr7⟩
          · first | rw [b2i_0] at c_61 | rw [b2i_n0] at c_61 | skip
            refine z_iconst (v := 1) g dX11_law_64 (by decide) ?_
            refine z_goto (tgt := 91) g dX11_law_65 (by decide) ?_
            have hc : cLawc S t d l a b = 1 := by simp [cLawc, c_4, c_14, c_25, c_36, c_61]
            refine z_callV g _ _ cv_X11_234 (n_holds _ M hM fr0 1) hM.k0 (by decide) rfl (by rw [hR]; decide) (by rw [hR]; decide) (by rw [hR]; decide) (Nat.le_of_ble_eq_true rfl) rfl dX11_law_91 (fun _ _ h => False.elim h) (fun r_91 M8 h_91 => ?_)
            obtain ⟨rfl, hM8, fr8⟩ := h_91
            refine z_if_ne (tgt := 99) g dX11_law_94 (by decide) (fun c_94 => absurd c_94 (by decide)) (fun _ => ?_)
            refine z_iconst (v := 0) g dX11_law_97 (by decide) ?_
            exact z_iret g hrt rfl (by decide) (by decide) dX11_law_98 ⟨by rw [hc, opV_1], by rw [hc, opS_1]; exact hM8, fr8⟩
        · first | rw [b2i_0] at c_36 | rw [b2i_n0] at c_36 | skip
          refine z_iload g dX11_law_39 rfl ?_
          refine z_if_gt (tgt := 49) g dX11_law_41 (by decide) (fun c_41 => ?_) (fun c_41 => ?_)
          · refine z_iconst (v := 1) g dX11_law_49 (by decide) ?_
            refine z_goto (tgt := 54) g dX11_law_50 (by decide) ?_
            refine z_istore g dX11_law_54 (by rw [hN]; decide) ?_
            refine z_aload_n g dX11_law_56 rfl ?_
            refine z_iload_n g dX11_law_57 rfl ?_
            refine z_callS g _ _ cs_X11_264 (n_isT _ M t) rfl (by rw [hR]; decide) (by rw [hR]; decide) (by rw [hR]; decide) (Nat.le_of_ble_eq_true rfl) rfl dX11_law_58 (fun _ _ h => False.elim h) (fun r_58 M_58 h_58 => ?_)
            obtain ⟨rfl, rfl⟩ := h_58
            refine z_if_ne (tgt := 68) g dX11_law_61 (by decide) (fun c_61 => ?_) (fun c_61 => ?_)
            · first | rw [b2i_0] at c_61 | rw [b2i_n0] at c_61 | skip
              refine z_iload g dX11_law_68 rfl ?_
              refine z_if_ne (tgt := 77) g dX11_law_70 (by decide) (fun _ => ?_) (fun c_70 => absurd c_70 (by decide))
              refine z_aload_n g dX11_law_77 rfl ?_
              refine z_getI g fl_X11_219 hM.k0 (by decide) rfl dX11_law_78 ?_
              rw [show fI _ m 24 = gi S 24 from hM.sc (k := 24) (by decide) (by decide)]
              refine z_bipush (v := 12) g dX11_law_81 (by decide) ?_
              refine z_icmp_ne (tgt := 90) g dX11_law_83 (by decide) (fun c_83 => ?_) (fun c_83 => ?_)
              · refine z_iconst (v := 0) g dX11_law_90 (by decide) ?_
                have hc : cLawc S t d l a b = 0 := by simp [cLawc, c_4, c_14, c_25, c_36, eq_true c_41, c_61, eq_false c_83]
                refine z_callV g _ _ cv_X11_234 (n_holds _ M hM fr0 0) hM.k0 (by decide) rfl (by rw [hR]; decide) (by rw [hR]; decide) (by rw [hR]; decide) (Nat.le_of_ble_eq_true rfl) rfl dX11_law_91 (fun _ _ h => False.elim h) (fun r_91 M9 h_91 => ?_)
                obtain ⟨rfl, hM9, fr9⟩ := h_91
                refine z_if_ne (tgt := 99) g dX11_law_94 (by decide) (fun _ => ?_) (fun c_94 => absurd c_94 (by decide))
                have hn12 : cn S 24 < 12 := by
                  have h8 := v24.2
                  have h9 : ¬ cn S 24 = 12 := fun z => c_83 (by rw [v24.1, z]; rfl)
                  omega
                refine z_aload_n g dX11_law_99 rfl ?_
                refine z_getR g fl_X11_71 hM9.k0 (by decide) rfl (hM9.ref (k := 25) (by decide)) dX11_law_100 ?_
                refine z_aload_n g dX11_law_103 rfl ?_
                refine z_getI g fl_X11_219 hM9.k0 (by decide) rfl dX11_law_104 ?_
                rw [show fI _ m 24 = gi S 24 from hM9.sc (k := 24) (by decide) (by decide), v24.1]
                refine z_iload_n g dX11_law_107 rfl ?_
                refine m_iast g hM9 fr9 25 (by decide) (by show _ < 12; omega) dX11_law_108 (fun M10 hM10 fr10 => ?_)
                refine z_aload_n g dX11_law_109 rfl ?_
                refine z_getR g fl_X11_74 hM10.k0 (by decide) rfl (hM10.ref (k := 26) (by decide)) dX11_law_110 ?_
                refine z_aload_n g dX11_law_113 rfl ?_
                refine z_getI g fl_X11_219 hM10.k0 (by decide) rfl dX11_law_114 ?_
                rw [show fI _ m 24 = gi S 24 from hM10.sc (k := 24) (by decide) (by decide), v24.1]
                refine z_iload_n g dX11_law_117 rfl ?_
                refine m_iast g hM10 fr10 26 (by decide) (by show _ < 12; omega) dX11_law_118 (fun M11 hM11 fr11 => ?_)
                refine z_aload_n g dX11_law_119 rfl ?_
                refine z_getR g fl_X11_77 hM11.k0 (by decide) rfl (hM11.ref (k := 27) (by decide)) dX11_law_120 ?_
                refine z_aload_n g dX11_law_123 rfl ?_
                refine z_getI g fl_X11_219 hM11.k0 (by decide) rfl dX11_law_124 ?_
                rw [show fI _ m 24 = gi S 24 from hM11.sc (k := 24) (by decide) (by decide), v24.1]
                refine z_iload_n g dX11_law_127 rfl ?_
                refine m_iast g hM11 fr11 27 (by decide) (by show _ < 12; omega) dX11_law_128 (fun M12 hM12 fr12 => ?_)
                refine z_aload_n g dX11_law_129 rfl ?_
                refine z_getR g fl_X11_80 hM12.k0 (by decide) rfl (hM12.ref (k := 28) (by decide)) dX11_law_130 ?_
                refine z_aload_n g dX11_law_133 rfl ?_
                refine z_getI g fl_X11_219 hM12.k0 (by decide) rfl dX11_law_134 ?_
                rw [show fI _ m 24 = gi S 24 from hM12.sc (k := 24) (by decide) (by decide), v24.1]
                refine z_iload g dX11_law_137 rfl ?_
                refine m_iast g hM12 fr12 28 (by decide) (by show _ < 12; omega) dX11_law_139 (fun M13 hM13 fr13 => ?_)
                refine z_aload_n g dX11_law_140 rfl ?_
                refine z_getR g fl_X11_83 hM13.k0 (by decide) rfl (hM13.ref (k := 29) (by decide)) dX11_law_141 ?_
                refine z_aload_n g dX11_law_144 rfl ?_
                refine z_getI g fl_X11_219 hM13.k0 (by decide) rfl dX11_law_145 ?_
                rw [show fI _ m 24 = gi S 24 from hM13.sc (k := 24) (by decide) (by decide), v24.1]
                refine z_iload g dX11_law_148 rfl ?_
                refine m_iast g hM13 fr13 29 (by decide) (by show _ < 12; omega) dX11_law_150 (fun M14 hM14 fr14 => ?_)
                refine z_aload_n g dX11_law_151 rfl ?_
                refine z_getR g fl_X11_86 hM14.k0 (by decide) rfl (hM14.ref (k := 30) (by decide)) dX11_law_152 ?_
                refine z_aload_n g dX11_law_155 rfl ?_
                refine z_getI g fl_X11_219 hM14.k0 (by decide) rfl dX11_law_156 ?_
                rw [show fI _ m 24 = gi S 24 from hM14.sc (k := 24) (by decide) (by decide), v24.1]
                refine z_aload_n g dX11_law_159 rfl ?_
                refine z_getI g fl_X11_238 hM14.k0 (by decide) rfl dX11_law_160 ?_
                rw [show fI _ m 1 = gi S 1 from hM14.sc (k := 1) (by decide) (by decide)]
                refine m_iast g hM14 fr14 30 (by decide) (by show _ < 12; omega) dX11_law_163 (fun M15 hM15 fr15 => ?_)
                refine z_aload_n g dX11_law_164 rfl ?_
                refine z_dup g dX11_law_165 rfl ?_
                refine z_getI g fl_X11_219 hM15.k0 (by decide) rfl dX11_law_166 ?_
                rw [show fI _ m 24 = gi S 24 from hM15.sc (k := 24) (by decide) (by decide)]
                refine z_iconst (v := 1) g dX11_law_169 (by decide) ?_
                refine z_iadd g dX11_law_170 ?_
                refine m_puti g hM15 fr15 (k := 24) fp_X11_219 rfl dX11_law_171 (fun M16 hM16 fr16 => ?_)
                refine z_aload_n g dX11_law_174 rfl ?_
                refine z_getI g fl_X11_219 hM16.k0 (by decide) rfl dX11_law_175 ?_
                rw [show fI _ m 24 = gi S 24 + 1 from hM16.sc (k := 24) (by decide) (by decide), v24.1, nI_s]
                exact z_iret g hrt rfl (by decide) (by decide) dX11_law_178 ⟨by rw [hc, opV_0]; rfl, by rw [hc, opS_0]; exact hM16, fr16⟩
              · refine z_iconst (v := 3) g dX11_law_86 (by decide) ?_
                refine z_goto (tgt := 91) g dX11_law_87 (by decide) ?_
                have hc : cLawc S t d l a b = 3 := by simp [cLawc, c_4, c_14, c_25, c_36, eq_true c_41, c_61, eq_true c_83]
                refine z_callV g _ _ cv_X11_234 (n_holds _ M hM fr0 3) hM.k0 (by decide) rfl (by rw [hR]; decide) (by rw [hR]; decide) (by rw [hR]; decide) (Nat.le_of_ble_eq_true rfl) rfl dX11_law_91 (fun _ _ h => False.elim h) (fun r_91 M17 h_91 => ?_)
                obtain ⟨rfl, hM17, fr17⟩ := h_91
                refine z_if_ne (tgt := 99) g dX11_law_94 (by decide) (fun c_94 => absurd c_94 (by decide)) (fun _ => ?_)
                refine z_iconst (v := 0) g dX11_law_97 (by decide) ?_
                exact z_iret g hrt rfl (by decide) (by decide) dX11_law_98 ⟨by rw [hc, opV_3], by rw [hc, opS_3]; exact hM17, fr17⟩
            · first | rw [b2i_0] at c_61 | rw [b2i_n0] at c_61 | skip
              refine z_iconst (v := 1) g dX11_law_64 (by decide) ?_
              refine z_goto (tgt := 91) g dX11_law_65 (by decide) ?_
              have hc : cLawc S t d l a b = 1 := by simp [cLawc, c_4, c_14, c_25, c_36, eq_true c_41, c_61]
              refine z_callV g _ _ cv_X11_234 (n_holds _ M hM fr0 1) hM.k0 (by decide) rfl (by rw [hR]; decide) (by rw [hR]; decide) (by rw [hR]; decide) (Nat.le_of_ble_eq_true rfl) rfl dX11_law_91 (fun _ _ h => False.elim h) (fun r_91 M18 h_91 => ?_)
              obtain ⟨rfl, hM18, fr18⟩ := h_91
              refine z_if_ne (tgt := 99) g dX11_law_94 (by decide) (fun c_94 => absurd c_94 (by decide)) (fun _ => ?_)
              refine z_iconst (v := 0) g dX11_law_97 (by decide) ?_
              exact z_iret g hrt rfl (by decide) (by decide) dX11_law_98 ⟨by rw [hc, opV_1], by rw [hc, opS_1]; exact hM18, fr18⟩
          · refine z_iload g dX11_law_44 rfl ?_
            refine z_if_ne (tgt := 53) g dX11_law_46 (by decide) (fun c_46 => ?_) (fun c_46 => ?_)
            · refine z_iconst (v := 0) g dX11_law_53 (by decide) ?_
              refine z_istore g dX11_law_54 (by rw [hN]; decide) ?_
              refine z_aload_n g dX11_law_56 rfl ?_
              refine z_iload_n g dX11_law_57 rfl ?_
              refine z_callS g _ _ cs_X11_264 (n_isT _ M t) rfl (by rw [hR]; decide) (by rw [hR]; decide) (by rw [hR]; decide) (Nat.le_of_ble_eq_true rfl) rfl dX11_law_58 (fun _ _ h => False.elim h) (fun r_58 M_58 h_58 => ?_)
              obtain ⟨rfl, rfl⟩ := h_58
              refine z_if_ne (tgt := 68) g dX11_law_61 (by decide) (fun c_61 => ?_) (fun c_61 => ?_)
              · first | rw [b2i_0] at c_61 | rw [b2i_n0] at c_61 | skip
                refine z_iload g dX11_law_68 rfl ?_
                refine z_if_ne (tgt := 77) g dX11_law_70 (by decide) (fun c_70 => absurd c_70 (by decide)) (fun _ => ?_)
                refine z_iconst (v := 2) g dX11_law_73 (by decide) ?_
                refine z_goto (tgt := 91) g dX11_law_74 (by decide) ?_
                have hc : cLawc S t d l a b = 2 := by simp [cLawc, c_4, c_14, c_25, c_36, eq_false c_41, eq_false c_46, c_61]
                refine z_callV g _ _ cv_X11_234 (n_holds _ M hM fr0 2) hM.k0 (by decide) rfl (by rw [hR]; decide) (by rw [hR]; decide) (by rw [hR]; decide) (Nat.le_of_ble_eq_true rfl) rfl dX11_law_91 (fun _ _ h => False.elim h) (fun r_91 M19 h_91 => ?_)
                obtain ⟨rfl, hM19, fr19⟩ := h_91
                refine z_if_ne (tgt := 99) g dX11_law_94 (by decide) (fun c_94 => absurd c_94 (by decide)) (fun _ => ?_)
                refine z_iconst (v := 0) g dX11_law_97 (by decide) ?_
                exact z_iret g hrt rfl (by decide) (by decide) dX11_law_98 ⟨by rw [hc, opV_2], by rw [hc, opS_2]; exact hM19, fr19⟩
              · first | rw [b2i_0] at c_61 | rw [b2i_n0] at c_61 | skip
                refine z_iconst (v := 1) g dX11_law_64 (by decide) ?_
                refine z_goto (tgt := 91) g dX11_law_65 (by decide) ?_
                have hc : cLawc S t d l a b = 1 := by simp [cLawc, c_4, c_14, c_25, c_36, eq_false c_41, eq_false c_46, c_61]
                refine z_callV g _ _ cv_X11_234 (n_holds _ M hM fr0 1) hM.k0 (by decide) rfl (by rw [hR]; decide) (by rw [hR]; decide) (by rw [hR]; decide) (Nat.le_of_ble_eq_true rfl) rfl dX11_law_91 (fun _ _ h => False.elim h) (fun r_91 M20 h_91 => ?_)
                obtain ⟨rfl, hM20, fr20⟩ := h_91
                refine z_if_ne (tgt := 99) g dX11_law_94 (by decide) (fun c_94 => absurd c_94 (by decide)) (fun _ => ?_)
                refine z_iconst (v := 0) g dX11_law_97 (by decide) ?_
                exact z_iret g hrt rfl (by decide) (by decide) dX11_law_98 ⟨by rw [hc, opV_1], by rw [hc, opS_1]; exact hM20, fr20⟩
            · refine z_iconst (v := 1) g dX11_law_49 (by decide) ?_
              refine z_goto (tgt := 54) g dX11_law_50 (by decide) ?_
              refine z_istore g dX11_law_54 (by rw [hN]; decide) ?_
              refine z_aload_n g dX11_law_56 rfl ?_
              refine z_iload_n g dX11_law_57 rfl ?_
              refine z_callS g _ _ cs_X11_264 (n_isT _ M t) rfl (by rw [hR]; decide) (by rw [hR]; decide) (by rw [hR]; decide) (Nat.le_of_ble_eq_true rfl) rfl dX11_law_58 (fun _ _ h => False.elim h) (fun r_58 M_58 h_58 => ?_)
              obtain ⟨rfl, rfl⟩ := h_58
              refine z_if_ne (tgt := 68) g dX11_law_61 (by decide) (fun c_61 => ?_) (fun c_61 => ?_)
              · first | rw [b2i_0] at c_61 | rw [b2i_n0] at c_61 | skip
                refine z_iload g dX11_law_68 rfl ?_
                refine z_if_ne (tgt := 77) g dX11_law_70 (by decide) (fun _ => ?_) (fun c_70 => absurd c_70 (by decide))
                refine z_aload_n g dX11_law_77 rfl ?_
                refine z_getI g fl_X11_219 hM.k0 (by decide) rfl dX11_law_78 ?_
                rw [show fI _ m 24 = gi S 24 from hM.sc (k := 24) (by decide) (by decide)]
                refine z_bipush (v := 12) g dX11_law_81 (by decide) ?_
                refine z_icmp_ne (tgt := 90) g dX11_law_83 (by decide) (fun c_83 => ?_) (fun c_83 => ?_)
                · refine z_iconst (v := 0) g dX11_law_90 (by decide) ?_
                  have hc : cLawc S t d l a b = 0 := by simp [cLawc, c_4, c_14, c_25, c_36, eq_false c_41, eq_true c_46, c_61, eq_false c_83]
                  refine z_callV g _ _ cv_X11_234 (n_holds _ M hM fr0 0) hM.k0 (by decide) rfl (by rw [hR]; decide) (by rw [hR]; decide) (by rw [hR]; decide) (Nat.le_of_ble_eq_true rfl) rfl dX11_law_91 (fun _ _ h => False.elim h) (fun r_91 M21 h_91 => ?_)
                  obtain ⟨rfl, hM21, fr21⟩ := h_91
                  refine z_if_ne (tgt := 99) g dX11_law_94 (by decide) (fun _ => ?_) (fun c_94 => absurd c_94 (by decide))
                  have hn12 : cn S 24 < 12 := by
                    have h8 := v24.2
                    have h9 : ¬ cn S 24 = 12 := fun z => c_83 (by rw [v24.1, z]; rfl)
                    omega
                  refine z_aload_n g dX11_law_99 rfl ?_
                  refine z_getR g fl_X11_71 hM21.k0 (by decide) rfl (hM21.ref (k := 25) (by decide)) dX11_law_100 ?_
                  refine z_aload_n g dX11_law_103 rfl ?_
                  refine z_getI g fl_X11_219 hM21.k0 (by decide) rfl dX11_law_104 ?_
                  rw [show fI _ m 24 = gi S 24 from hM21.sc (k := 24) (by decide) (by decide), v24.1]
                  refine z_iload_n g dX11_law_107 rfl ?_
                  refine m_iast g hM21 fr21 25 (by decide) (by show _ < 12; omega) dX11_law_108 (fun M22 hM22 fr22 => ?_)
                  refine z_aload_n g dX11_law_109 rfl ?_
                  refine z_getR g fl_X11_74 hM22.k0 (by decide) rfl (hM22.ref (k := 26) (by decide)) dX11_law_110 ?_
                  refine z_aload_n g dX11_law_113 rfl ?_
                  refine z_getI g fl_X11_219 hM22.k0 (by decide) rfl dX11_law_114 ?_
                  rw [show fI _ m 24 = gi S 24 from hM22.sc (k := 24) (by decide) (by decide), v24.1]
                  refine z_iload_n g dX11_law_117 rfl ?_
                  refine m_iast g hM22 fr22 26 (by decide) (by show _ < 12; omega) dX11_law_118 (fun M23 hM23 fr23 => ?_)
                  refine z_aload_n g dX11_law_119 rfl ?_
                  refine z_getR g fl_X11_77 hM23.k0 (by decide) rfl (hM23.ref (k := 27) (by decide)) dX11_law_120 ?_
                  refine z_aload_n g dX11_law_123 rfl ?_
                  refine z_getI g fl_X11_219 hM23.k0 (by decide) rfl dX11_law_124 ?_
                  rw [show fI _ m 24 = gi S 24 from hM23.sc (k := 24) (by decide) (by decide), v24.1]
                  refine z_iload_n g dX11_law_127 rfl ?_
                  refine m_iast g hM23 fr23 27 (by decide) (by show _ < 12; omega) dX11_law_128 (fun M24 hM24 fr24 => ?_)
                  refine z_aload_n g dX11_law_129 rfl ?_
                  refine z_getR g fl_X11_80 hM24.k0 (by decide) rfl (hM24.ref (k := 28) (by decide)) dX11_law_130 ?_
                  refine z_aload_n g dX11_law_133 rfl ?_
                  refine z_getI g fl_X11_219 hM24.k0 (by decide) rfl dX11_law_134 ?_
                  rw [show fI _ m 24 = gi S 24 from hM24.sc (k := 24) (by decide) (by decide), v24.1]
                  refine z_iload g dX11_law_137 rfl ?_
                  refine m_iast g hM24 fr24 28 (by decide) (by show _ < 12; omega) dX11_law_139 (fun M25 hM25 fr25 => ?_)
                  refine z_aload_n g dX11_law_140 rfl ?_
                  refine z_getR g fl_X11_83 hM25.k0 (by decide) rfl (hM25.ref (k := 29) (by decide)) dX11_law_141 ?_
                  refine z_aload_n g dX11_law_144 rfl ?_
                  refine z_getI g fl_X11_219 hM25.k0 (by decide) rfl dX11_law_145 ?_
                  rw [show fI _ m 24 = gi S 24 from hM25.sc (k := 24) (by decide) (by decide), v24.1]
                  refine z_iload g dX11_law_148 rfl ?_
                  refine m_iast g hM25 fr25 29 (by decide) (by show _ < 12; omega) dX11_law_150 (fun M26 hM26 fr26 => ?_)
                  refine z_aload_n g dX11_law_151 rfl ?_
                  refine z_getR g fl_X11_86 hM26.k0 (by decide) rfl (hM26.ref (k := 30) (by decide)) dX11_law_152 ?_
                  refine z_aload_n g dX11_law_155 rfl ?_
                  refine z_getI g fl_X11_219 hM26.k0 (by decide) rfl dX11_law_156 ?_
                  rw [show fI _ m 24 = gi S 24 from hM26.sc (k := 24) (by decide) (by decide), v24.1]
                  refine z_aload_n g dX11_law_159 rfl ?_
                  refine z_getI g fl_X11_238 hM26.k0 (by decide) rfl dX11_law_160 ?_
                  rw [show fI _ m 1 = gi S 1 from hM26.sc (k := 1) (by decide) (by decide)]
                  refine m_iast g hM26 fr26 30 (by decide) (by show _ < 12; omega) dX11_law_163 (fun M27 hM27 fr27 => ?_)
                  refine z_aload_n g dX11_law_164 rfl ?_
                  refine z_dup g dX11_law_165 rfl ?_
                  refine z_getI g fl_X11_219 hM27.k0 (by decide) rfl dX11_law_166 ?_
                  rw [show fI _ m 24 = gi S 24 from hM27.sc (k := 24) (by decide) (by decide)]
                  refine z_iconst (v := 1) g dX11_law_169 (by decide) ?_
                  refine z_iadd g dX11_law_170 ?_
                  refine m_puti g hM27 fr27 (k := 24) fp_X11_219 rfl dX11_law_171 (fun M28 hM28 fr28 => ?_)
                  refine z_aload_n g dX11_law_174 rfl ?_
                  refine z_getI g fl_X11_219 hM28.k0 (by decide) rfl dX11_law_175 ?_
                  rw [show fI _ m 24 = gi S 24 + 1 from hM28.sc (k := 24) (by decide) (by decide), v24.1, nI_s]
                  exact z_iret g hrt rfl (by decide) (by decide) dX11_law_178 ⟨by rw [hc, opV_0]; rfl, by rw [hc, opS_0]; exact hM28, fr28⟩
                · refine z_iconst (v := 3) g dX11_law_86 (by decide) ?_
                  refine z_goto (tgt := 91) g dX11_law_87 (by decide) ?_
                  have hc : cLawc S t d l a b = 3 := by simp [cLawc, c_4, c_14, c_25, c_36, eq_false c_41, eq_true c_46, c_61, eq_true c_83]
                  refine z_callV g _ _ cv_X11_234 (n_holds _ M hM fr0 3) hM.k0 (by decide) rfl (by rw [hR]; decide) (by rw [hR]; decide) (by rw [hR]; decide) (Nat.le_of_ble_eq_true rfl) rfl dX11_law_91 (fun _ _ h => False.elim h) (fun r_91 M29 h_91 => ?_)
                  obtain ⟨rfl, hM29, fr29⟩ := h_91
                  refine z_if_ne (tgt := 99) g dX11_law_94 (by decide) (fun c_94 => absurd c_94 (by decide)) (fun _ => ?_)
                  refine z_iconst (v := 0) g dX11_law_97 (by decide) ?_
                  exact z_iret g hrt rfl (by decide) (by decide) dX11_law_98 ⟨by rw [hc, opV_3], by rw [hc, opS_3]; exact hM29, fr29⟩
              · first | rw [b2i_0] at c_61 | rw [b2i_n0] at c_61 | skip
                refine z_iconst (v := 1) g dX11_law_64 (by decide) ?_
                refine z_goto (tgt := 91) g dX11_law_65 (by decide) ?_
                have hc : cLawc S t d l a b = 1 := by simp [cLawc, c_4, c_14, c_25, c_36, eq_false c_41, eq_true c_46, c_61]
                refine z_callV g _ _ cv_X11_234 (n_holds _ M hM fr0 1) hM.k0 (by decide) rfl (by rw [hR]; decide) (by rw [hR]; decide) (by rw [hR]; decide) (Nat.le_of_ble_eq_true rfl) rfl dX11_law_91 (fun _ _ h => False.elim h) (fun r_91 M30 h_91 => ?_)
                obtain ⟨rfl, hM30, fr30⟩ := h_91
                refine z_if_ne (tgt := 99) g dX11_law_94 (by decide) (fun c_94 => absurd c_94 (by decide)) (fun _ => ?_)
                refine z_iconst (v := 0) g dX11_law_97 (by decide) ?_
                exact z_iret g hrt rfl (by decide) (by decide) dX11_law_98 ⟨by rw [hc, opV_1], by rw [hc, opS_1]; exact hM30, fr30⟩
set_option maxHeartbeats 4000000 in
set_option maxRecDepth 100000 in
theorem m_except (E : Ev) {A : Nat → Nat} {m : Nat} {S : Ms} (M : Mm) (hM : RM A m S M) (hV : INV S) (f t d : Int32) : CT E yX11_except cX11_except 5 none 4 0 0 [.ref m, .int f, .int t, .int d] M (mAns A m (opS (cExcept S f t d) S (sExcept S f t d)) M none) noX := by
  refine CT.of rfl (Nat.le_of_ble_eq_true rfl) (fun X g hrt hno hE hN hR hI => ?_)
  subst hE
  obtain ⟨v1, v2, v17, v24, v31, v36, v51, v58, v59⟩ := hV.1
  have hV0 := hV
  obtain ⟨-, vF, vN, vM, vL, vX, vP, vQ, vT, vR, vS, vO⟩ := hV
  have fr0 := FM.rf (A := A) (m := m) (M := M)
  rcases inN (n := cn S 2) (by have := v2.2; omega) f with hF | ⟨j, hj, rfl, hF⟩
  · rw [← v2.1] at hF
    refine z_aload_n g dX11_except_0 rfl ?_
    refine z_iload_n g dX11_except_1 rfl ?_
    refine z_callV g _ _ cv_X11_245 (n_isF _ M hM f) hM.k0 (by decide) rfl (by rw [hR]; decide) (by rw [hR]; decide) (by rw [hR]; decide) (Nat.le_of_ble_eq_true rfl) rfl dX11_except_2 (fun _ _ h => False.elim h) (fun r_2 M_2 h_2 => ?_)
    obtain ⟨rfl, rfl⟩ := h_2
    rw [hF]
    refine z_if_eq (tgt := 19) g dX11_except_5 (by decide) (fun _ => ?_) (fun c_5 => absurd c_5 (by decide))
    refine z_iconst (v := 0) g dX11_except_19 (by decide) ?_
    refine z_istore g dX11_except_20 (by rw [hN]; decide) ?_
    refine z_aload_n g dX11_except_22 rfl ?_
    refine z_iload g dX11_except_23 rfl ?_
    refine z_if_ne (tgt := 32) g dX11_except_25 (by decide) (fun c_25 => absurd c_25 (by decide)) (fun _ => ?_)
    refine z_iconst (v := 1) g dX11_except_28 (by decide) ?_
    refine z_goto (tgt := 57) g dX11_except_29 (by decide) ?_
    have hc : cExcept S f t d = 1 := by simp [cExcept, isF, hF]
    refine z_callV g _ _ cv_X11_234 (n_holds _ M hM fr0 1) hM.k0 (by decide) rfl (by rw [hR]; decide) (by rw [hR]; decide) (by rw [hR]; decide) (Nat.le_of_ble_eq_true rfl) rfl dX11_except_57 (fun _ _ h => False.elim h) (fun r_57 M1 h_57 => ?_)
    obtain ⟨rfl, hM1, fr1⟩ := h_57
    refine z_if_eq (tgt := 116) g dX11_except_60 (by decide) (fun _ => ?_) (fun c_60 => absurd c_60 (by decide))
    exact z_vret g hrt (by decide) (by decide) dX11_except_116 ⟨rfl, by rw [hc, opS_1]; exact hM1, fr1⟩
  · rw [← v2.1] at hF
    have hj24 : j < 24 := by have := v2.2; omega
    refine z_aload_n g dX11_except_0 rfl ?_
    refine z_iload_n g dX11_except_1 rfl ?_
    refine z_callV g _ _ cv_X11_245 (n_isF _ M hM (nI j)) hM.k0 (by decide) rfl (by rw [hR]; decide) (by rw [hR]; decide) (by rw [hR]; decide) (Nat.le_of_ble_eq_true rfl) rfl dX11_except_2 (fun _ _ h => False.elim h) (fun r_2 M_2 h_2 => ?_)
    obtain ⟨rfl, rfl⟩ := h_2
    rw [hF]
    refine z_if_eq (tgt := 19) g dX11_except_5 (by decide) (fun c_5 => absurd c_5 (by decide)) (fun _ => ?_)
    refine z_iload_n g dX11_except_8 rfl ?_
    refine z_callS g _ _ cs_X11_264 (n_isT _ M t) rfl (by rw [hR]; decide) (by rw [hR]; decide) (by rw [hR]; decide) (Nat.le_of_ble_eq_true rfl) rfl dX11_except_9 (fun _ _ h => False.elim h) (fun r_9 M_9 h_9 => ?_)
    obtain ⟨rfl, rfl⟩ := h_9
    refine z_if_eq (tgt := 19) g dX11_except_12 (by decide) (fun c_12 => ?_) (fun c_12 => ?_)
    · first | rw [b2i_0] at c_12 | rw [b2i_n0] at c_12 | skip
      refine z_iconst (v := 0) g dX11_except_19 (by decide) ?_
      refine z_istore g dX11_except_20 (by rw [hN]; decide) ?_
      refine z_aload_n g dX11_except_22 rfl ?_
      refine z_iload g dX11_except_23 rfl ?_
      refine z_if_ne (tgt := 32) g dX11_except_25 (by decide) (fun c_25 => absurd c_25 (by decide)) (fun _ => ?_)
      refine z_iconst (v := 1) g dX11_except_28 (by decide) ?_
      refine z_goto (tgt := 57) g dX11_except_29 (by decide) ?_
      have hc : cExcept S (nI j) t d = 1 := by simp [cExcept, isF, hF, c_12]
      refine z_callV g _ _ cv_X11_234 (n_holds _ M hM fr0 1) hM.k0 (by decide) rfl (by rw [hR]; decide) (by rw [hR]; decide) (by rw [hR]; decide) (Nat.le_of_ble_eq_true rfl) rfl dX11_except_57 (fun _ _ h => False.elim h) (fun r_57 M1 h_57 => ?_)
      obtain ⟨rfl, hM1, fr1⟩ := h_57
      refine z_if_eq (tgt := 116) g dX11_except_60 (by decide) (fun _ => ?_) (fun c_60 => absurd c_60 (by decide))
      exact z_vret g hrt (by decide) (by decide) dX11_except_116 ⟨rfl, by rw [hc, opS_1]; exact hM1, fr1⟩
    · first | rw [b2i_0] at c_12 | rw [b2i_n0] at c_12 | skip
      refine z_iconst (v := 1) g dX11_except_15 (by decide) ?_
      refine z_goto (tgt := 20) g dX11_except_16 (by decide) ?_
      refine z_istore g dX11_except_20 (by rw [hN]; decide) ?_
      refine z_aload_n g dX11_except_22 rfl ?_
      refine z_iload g dX11_except_23 rfl ?_
      refine z_if_ne (tgt := 32) g dX11_except_25 (by decide) (fun _ => ?_) (fun c_25 => absurd c_25 (by decide))
      refine z_iload_n g dX11_except_32 rfl ?_
      refine z_callS g _ _ cs_X11_248 (n_isD _ M d) rfl (by rw [hR]; decide) (by rw [hR]; decide) (by rw [hR]; decide) (Nat.le_of_ble_eq_true rfl) rfl dX11_except_33 (fun _ _ h => False.elim h) (fun r_33 M_33 h_33 => ?_)
      obtain ⟨rfl, rfl⟩ := h_33
      refine z_if_ne (tgt := 43) g dX11_except_36 (by decide) (fun c_36 => ?_) (fun c_36 => ?_)
      · first | rw [b2i_0] at c_36 | rw [b2i_n0] at c_36 | skip
        refine z_aload_n g dX11_except_43 rfl ?_
        refine z_getI g fl_X11_204 hM.k0 (by decide) rfl dX11_except_44 ?_
        rw [show fI _ m 31 = gi S 31 from hM.sc (k := 31) (by decide) (by decide)]
        refine z_bipush (v := 40) g dX11_except_47 (by decide) ?_
        refine z_icmp_ne (tgt := 56) g dX11_except_49 (by decide) (fun c_49 => ?_) (fun c_49 => ?_)
        · refine z_iconst (v := 0) g dX11_except_56 (by decide) ?_
          have hc : cExcept S (nI j) t d = 0 := by simp [cExcept, isF, hF, c_12, c_36, eq_false c_49]
          refine z_callV g _ _ cv_X11_234 (n_holds _ M hM fr0 0) hM.k0 (by decide) rfl (by rw [hR]; decide) (by rw [hR]; decide) (by rw [hR]; decide) (Nat.le_of_ble_eq_true rfl) rfl dX11_except_57 (fun _ _ h => False.elim h) (fun r_57 M2 h_57 => ?_)
          obtain ⟨rfl, hM2, fr2⟩ := h_57
          refine z_if_eq (tgt := 116) g dX11_except_60 (by decide) (fun c_60 => absurd c_60 (by decide)) (fun _ => ?_)
          have hn40 : cn S 31 < 40 := by
            have h8 := v31.2
            have h9 : ¬ cn S 31 = 40 := fun z => c_49 (by rw [v31.1, z]; rfl)
            omega
          refine z_aload_n g dX11_except_63 rfl ?_
          refine z_getR g fl_X11_89 hM2.k0 (by decide) rfl (hM2.ref (k := 32) (by decide)) dX11_except_64 ?_
          refine z_aload_n g dX11_except_67 rfl ?_
          refine z_getI g fl_X11_204 hM2.k0 (by decide) rfl dX11_except_68 ?_
          rw [show fI _ m 31 = gi S 31 from hM2.sc (k := 31) (by decide) (by decide), v31.1]
          refine z_iload_n g dX11_except_71 rfl ?_
          refine m_iast g hM2 fr2 32 (by decide) (by show _ < 40; omega) dX11_except_72 (fun M3 hM3 fr3 => ?_)
          refine z_aload_n g dX11_except_73 rfl ?_
          refine z_getR g fl_X11_92 hM3.k0 (by decide) rfl (hM3.ref (k := 33) (by decide)) dX11_except_74 ?_
          refine z_aload_n g dX11_except_77 rfl ?_
          refine z_getI g fl_X11_204 hM3.k0 (by decide) rfl dX11_except_78 ?_
          rw [show fI _ m 31 = gi S 31 from hM3.sc (k := 31) (by decide) (by decide), v31.1]
          refine z_iload_n g dX11_except_81 rfl ?_
          refine m_iast g hM3 fr3 33 (by decide) (by show _ < 40; omega) dX11_except_82 (fun M4 hM4 fr4 => ?_)
          refine z_aload_n g dX11_except_83 rfl ?_
          refine z_getR g fl_X11_95 hM4.k0 (by decide) rfl (hM4.ref (k := 34) (by decide)) dX11_except_84 ?_
          refine z_aload_n g dX11_except_87 rfl ?_
          refine z_getI g fl_X11_204 hM4.k0 (by decide) rfl dX11_except_88 ?_
          rw [show fI _ m 31 = gi S 31 from hM4.sc (k := 31) (by decide) (by decide), v31.1]
          refine z_iload_n g dX11_except_91 rfl ?_
          refine m_iast g hM4 fr4 34 (by decide) (by show _ < 40; omega) dX11_except_92 (fun M5 hM5 fr5 => ?_)
          refine z_aload_n g dX11_except_93 rfl ?_
          refine z_getR g fl_X11_98 hM5.k0 (by decide) rfl (hM5.ref (k := 35) (by decide)) dX11_except_94 ?_
          refine z_aload_n g dX11_except_97 rfl ?_
          refine z_getI g fl_X11_204 hM5.k0 (by decide) rfl dX11_except_98 ?_
          rw [show fI _ m 31 = gi S 31 from hM5.sc (k := 31) (by decide) (by decide), v31.1]
          refine z_aload_n g dX11_except_101 rfl ?_
          refine z_getI g fl_X11_238 hM5.k0 (by decide) rfl dX11_except_102 ?_
          rw [show fI _ m 1 = gi S 1 from hM5.sc (k := 1) (by decide) (by decide)]
          refine m_iast g hM5 fr5 35 (by decide) (by show _ < 40; omega) dX11_except_105 (fun M6 hM6 fr6 => ?_)
          refine z_aload_n g dX11_except_106 rfl ?_
          refine z_dup g dX11_except_107 rfl ?_
          refine z_getI g fl_X11_204 hM6.k0 (by decide) rfl dX11_except_108 ?_
          rw [show fI _ m 31 = gi S 31 from hM6.sc (k := 31) (by decide) (by decide)]
          refine z_iconst (v := 1) g dX11_except_111 (by decide) ?_
          refine z_iadd g dX11_except_112 ?_
          refine m_puti g hM6 fr6 (k := 31) fp_X11_204 rfl dX11_except_113 (fun M7 hM7 fr7 => ?_)
          exact z_vret g hrt (by decide) (by decide) dX11_except_116 ⟨rfl, by rw [hc, opS_0]; exact hM7, fr7⟩
        · refine z_iconst (v := 3) g dX11_except_52 (by decide) ?_
          refine z_goto (tgt := 57) g dX11_except_53 (by decide) ?_
          have hc : cExcept S (nI j) t d = 3 := by simp [cExcept, isF, hF, c_12, c_36, eq_true c_49]
          refine z_callV g _ _ cv_X11_234 (n_holds _ M hM fr0 3) hM.k0 (by decide) rfl (by rw [hR]; decide) (by rw [hR]; decide) (by rw [hR]; decide) (Nat.le_of_ble_eq_true rfl) rfl dX11_except_57 (fun _ _ h => False.elim h) (fun r_57 M8 h_57 => ?_)
          obtain ⟨rfl, hM8, fr8⟩ := h_57
          refine z_if_eq (tgt := 116) g dX11_except_60 (by decide) (fun _ => ?_) (fun c_60 => absurd c_60 (by decide))
          exact z_vret g hrt (by decide) (by decide) dX11_except_116 ⟨rfl, by rw [hc, opS_3]; exact hM8, fr8⟩
      · first | rw [b2i_0] at c_36 | rw [b2i_n0] at c_36 | skip
        refine z_iconst (v := 2) g dX11_except_39 (by decide) ?_
        refine z_goto (tgt := 57) g dX11_except_40 (by decide) ?_
        have hc : cExcept S (nI j) t d = 2 := by simp [cExcept, isF, hF, c_12, c_36]
        refine z_callV g _ _ cv_X11_234 (n_holds _ M hM fr0 2) hM.k0 (by decide) rfl (by rw [hR]; decide) (by rw [hR]; decide) (by rw [hR]; decide) (Nat.le_of_ble_eq_true rfl) rfl dX11_except_57 (fun _ _ h => False.elim h) (fun r_57 M9 h_57 => ?_)
        obtain ⟨rfl, hM9, fr9⟩ := h_57
        refine z_if_eq (tgt := 116) g dX11_except_60 (by decide) (fun _ => ?_) (fun c_60 => absurd c_60 (by decide))
        exact z_vret g hrt (by decide) (by decide) dX11_except_116 ⟨rfl, by rw [hc, opS_2]; exact hM9, fr9⟩
set_option maxHeartbeats 4000000 in
set_option maxRecDepth 100000 in
theorem m_form (E : Ev) {A : Nat → Nat} {m : Nat} {S : Ms} (M : Mm) (hM : RM A m S M) (hV : INV S) (f t d k : Int32) : CT E yX11_form cX11_form 6 (some .long) 5 0 0 [.ref m, .int f, .int t, .int d, .int k] M (mAns A m (opS (cForm S f t d k) S (sForm S f t d k)) M (some (.long (opV (cForm S f t d k) (vForm S f t d k) 0)))) noX := by
  refine CT.of rfl (Nat.le_of_ble_eq_true rfl) (fun X g hrt hno hE hN hR hI => ?_)
  subst hE
  obtain ⟨v1, v2, v17, v24, v31, v36, v51, v58, v59⟩ := hV.1
  have hV0 := hV
  obtain ⟨-, vF, vN, vM, vL, vX, vP, vQ, vT, vR, vS, vO⟩ := hV
  have fr0 := FM.rf (A := A) (m := m) (M := M)
  rcases inN (n := cn S 2) (by have := v2.2; omega) f with hF | ⟨j, hj, rfl, hF⟩
  · rw [← v2.1] at hF
    refine z_aload_n g dX11_form_0 rfl ?_
    refine z_iload_n g dX11_form_1 rfl ?_
    refine z_callV g _ _ cv_X11_245 (n_isF _ M hM f) hM.k0 (by decide) rfl (by rw [hR]; decide) (by rw [hR]; decide) (by rw [hR]; decide) (Nat.le_of_ble_eq_true rfl) rfl dX11_form_2 (fun _ _ h => False.elim h) (fun r_2 M_2 h_2 => ?_)
    obtain ⟨rfl, rfl⟩ := h_2
    rw [hF]
    refine z_if_eq (tgt := 19) g dX11_form_5 (by decide) (fun _ => ?_) (fun c_5 => absurd c_5 (by decide))
    refine z_iconst (v := 0) g dX11_form_19 (by decide) ?_
    refine z_istore g dX11_form_20 (by rw [hN]; decide) ?_
    refine z_aload_n g dX11_form_22 rfl ?_
    refine z_iload g dX11_form_23 rfl ?_
    refine z_if_ne (tgt := 32) g dX11_form_25 (by decide) (fun c_25 => absurd c_25 (by decide)) (fun _ => ?_)
    refine z_iconst (v := 1) g dX11_form_28 (by decide) ?_
    refine z_goto (tgt := 52) g dX11_form_29 (by decide) ?_
    have hc : cForm S f t d k = 1 := by simp [cForm, isF, hF]
    refine z_callV g _ _ cv_X11_234 (n_holds _ M hM fr0 1) hM.k0 (by decide) rfl (by rw [hR]; decide) (by rw [hR]; decide) (by rw [hR]; decide) (Nat.le_of_ble_eq_true rfl) rfl dX11_form_52 (fun _ _ h => False.elim h) (fun r_52 M1 h_52 => ?_)
    obtain ⟨rfl, hM1, fr1⟩ := h_52
    refine z_if_eq (tgt := 70) g dX11_form_55 (by decide) (fun _ => ?_) (fun c_55 => absurd c_55 (by decide))
    refine z_lconst (v := 0) g dX11_form_70 (by decide) ?_
    exact z_lret g hrt (by decide) (by decide) dX11_form_71 ⟨by rw [hc, opV_1], by rw [hc, opS_1]; exact hM1, fr1⟩
  · rw [← v2.1] at hF
    have hj24 : j < 24 := by have := v2.2; omega
    refine z_aload_n g dX11_form_0 rfl ?_
    refine z_iload_n g dX11_form_1 rfl ?_
    refine z_callV g _ _ cv_X11_245 (n_isF _ M hM (nI j)) hM.k0 (by decide) rfl (by rw [hR]; decide) (by rw [hR]; decide) (by rw [hR]; decide) (Nat.le_of_ble_eq_true rfl) rfl dX11_form_2 (fun _ _ h => False.elim h) (fun r_2 M_2 h_2 => ?_)
    obtain ⟨rfl, rfl⟩ := h_2
    rw [hF]
    refine z_if_eq (tgt := 19) g dX11_form_5 (by decide) (fun c_5 => absurd c_5 (by decide)) (fun _ => ?_)
    refine z_iload_n g dX11_form_8 rfl ?_
    refine z_callS g _ _ cs_X11_264 (n_isT _ M t) rfl (by rw [hR]; decide) (by rw [hR]; decide) (by rw [hR]; decide) (Nat.le_of_ble_eq_true rfl) rfl dX11_form_9 (fun _ _ h => False.elim h) (fun r_9 M_9 h_9 => ?_)
    obtain ⟨rfl, rfl⟩ := h_9
    refine z_if_eq (tgt := 19) g dX11_form_12 (by decide) (fun c_12 => ?_) (fun c_12 => ?_)
    · first | rw [b2i_0] at c_12 | rw [b2i_n0] at c_12 | skip
      refine z_iconst (v := 0) g dX11_form_19 (by decide) ?_
      refine z_istore g dX11_form_20 (by rw [hN]; decide) ?_
      refine z_aload_n g dX11_form_22 rfl ?_
      refine z_iload g dX11_form_23 rfl ?_
      refine z_if_ne (tgt := 32) g dX11_form_25 (by decide) (fun c_25 => absurd c_25 (by decide)) (fun _ => ?_)
      refine z_iconst (v := 1) g dX11_form_28 (by decide) ?_
      refine z_goto (tgt := 52) g dX11_form_29 (by decide) ?_
      have hc : cForm S (nI j) t d k = 1 := by simp [cForm, isF, hF, c_12]
      refine z_callV g _ _ cv_X11_234 (n_holds _ M hM fr0 1) hM.k0 (by decide) rfl (by rw [hR]; decide) (by rw [hR]; decide) (by rw [hR]; decide) (Nat.le_of_ble_eq_true rfl) rfl dX11_form_52 (fun _ _ h => False.elim h) (fun r_52 M1 h_52 => ?_)
      obtain ⟨rfl, hM1, fr1⟩ := h_52
      refine z_if_eq (tgt := 70) g dX11_form_55 (by decide) (fun _ => ?_) (fun c_55 => absurd c_55 (by decide))
      refine z_lconst (v := 0) g dX11_form_70 (by decide) ?_
      exact z_lret g hrt (by decide) (by decide) dX11_form_71 ⟨by rw [hc, opV_1], by rw [hc, opS_1]; exact hM1, fr1⟩
    · first | rw [b2i_0] at c_12 | rw [b2i_n0] at c_12 | skip
      refine z_iconst (v := 1) g dX11_form_15 (by decide) ?_
      refine z_goto (tgt := 20) g dX11_form_16 (by decide) ?_
      refine z_istore g dX11_form_20 (by rw [hN]; decide) ?_
      refine z_aload_n g dX11_form_22 rfl ?_
      refine z_iload g dX11_form_23 rfl ?_
      refine z_if_ne (tgt := 32) g dX11_form_25 (by decide) (fun _ => ?_) (fun c_25 => absurd c_25 (by decide))
      refine z_iload_n g dX11_form_32 rfl ?_
      refine z_callS g _ _ cs_X11_248 (n_isD _ M d) rfl (by rw [hR]; decide) (by rw [hR]; decide) (by rw [hR]; decide) (Nat.le_of_ble_eq_true rfl) rfl dX11_form_33 (fun _ _ h => False.elim h) (fun r_33 M_33 h_33 => ?_)
      obtain ⟨rfl, rfl⟩ := h_33
      refine z_if_eq (tgt := 51) g dX11_form_36 (by decide) (fun c_36 => ?_) (fun c_36 => ?_)
      · first | rw [b2i_0] at c_36 | rw [b2i_n0] at c_36 | skip
        refine z_iconst (v := 2) g dX11_form_51 (by decide) ?_
        have hc : cForm S (nI j) t d k = 2 := by simp [cForm, isF, hF, c_12, c_36]
        refine z_callV g _ _ cv_X11_234 (n_holds _ M hM fr0 2) hM.k0 (by decide) rfl (by rw [hR]; decide) (by rw [hR]; decide) (by rw [hR]; decide) (Nat.le_of_ble_eq_true rfl) rfl dX11_form_52 (fun _ _ h => False.elim h) (fun r_52 M2 h_52 => ?_)
        obtain ⟨rfl, hM2, fr2⟩ := h_52
        refine z_if_eq (tgt := 70) g dX11_form_55 (by decide) (fun _ => ?_) (fun c_55 => absurd c_55 (by decide))
        refine z_lconst (v := 0) g dX11_form_70 (by decide) ?_
        exact z_lret g hrt (by decide) (by decide) dX11_form_71 ⟨by rw [hc, opV_2], by rw [hc, opS_2]; exact hM2, fr2⟩
      · first | rw [b2i_0] at c_36 | rw [b2i_n0] at c_36 | skip
        refine z_iload g dX11_form_39 rfl ?_
        refine z_callS g _ _ cs_X11_248 (n_isD _ M k) rfl (by rw [hR]; decide) (by rw [hR]; decide) (by rw [hR]; decide) (Nat.le_of_ble_eq_true rfl) rfl dX11_form_41 (fun _ _ h => False.elim h) (fun r_41 M_41 h_41 => ?_)
        obtain ⟨rfl, rfl⟩ := h_41
        refine z_if_eq (tgt := 51) g dX11_form_44 (by decide) (fun c_44 => ?_) (fun c_44 => ?_)
        · first | rw [b2i_0] at c_44 | rw [b2i_n0] at c_44 | skip
          refine z_iconst (v := 2) g dX11_form_51 (by decide) ?_
          have hc : cForm S (nI j) t d k = 2 := by simp [cForm, isF, hF, c_12, c_36, c_44]
          refine z_callV g _ _ cv_X11_234 (n_holds _ M hM fr0 2) hM.k0 (by decide) rfl (by rw [hR]; decide) (by rw [hR]; decide) (by rw [hR]; decide) (Nat.le_of_ble_eq_true rfl) rfl dX11_form_52 (fun _ _ h => False.elim h) (fun r_52 M3 h_52 => ?_)
          obtain ⟨rfl, hM3, fr3⟩ := h_52
          refine z_if_eq (tgt := 70) g dX11_form_55 (by decide) (fun _ => ?_) (fun c_55 => absurd c_55 (by decide))
          refine z_lconst (v := 0) g dX11_form_70 (by decide) ?_
          exact z_lret g hrt (by decide) (by decide) dX11_form_71 ⟨by rw [hc, opV_2], by rw [hc, opS_2]; exact hM3, fr3⟩
        · first | rw [b2i_0] at c_44 | rw [b2i_n0] at c_44 | skip
          refine z_iconst (v := 0) g dX11_form_47 (by decide) ?_
          refine z_goto (tgt := 52) g dX11_form_48 (by decide) ?_
          have hc : cForm S (nI j) t d k = 0 := by simp [cForm, isF, hF, c_12, c_36, c_44]
          refine z_callV g _ _ cv_X11_234 (n_holds _ M hM fr0 0) hM.k0 (by decide) rfl (by rw [hR]; decide) (by rw [hR]; decide) (by rw [hR]; decide) (Nat.le_of_ble_eq_true rfl) rfl dX11_form_52 (fun _ _ h => False.elim h) (fun r_52 M4 h_52 => ?_)
          obtain ⟨rfl, hM4, fr4⟩ := h_52
          refine z_if_eq (tgt := 70) g dX11_form_55 (by decide) (fun c_55 => absurd c_55 (by decide)) (fun _ => ?_)
          refine z_aload_n g dX11_form_58 rfl ?_
          refine z_iload_n g dX11_form_59 rfl ?_
          refine z_iload_n g dX11_form_60 rfl ?_
          refine z_iload_n g dX11_form_61 rfl ?_
          refine z_iload g dX11_form_62 rfl ?_
          refine z_callV g _ _ cv_X11_260 (n_frm _ M4 hM4 (OkF_wi0 hV0.OkF) j t d k) hM4.k0 (by decide) rfl (by rw [hR]; decide) (by rw [hR]; decide) (by rw [hR]; decide) (Nat.le_of_ble_eq_true rfl) rfl dX11_form_64 (fun _ _ h => False.elim h) (fun r_64 M5 h_64 => ?_)
          obtain ⟨rfl, se_64⟩ := h_64
          have hM5 := hM4.SE se_64
          have fr5 := fr4.tr se_64.FM
          rw [formA_wi0]
          refine z_goto (tgt := 71) g dX11_form_67 (by decide) ?_
          exact z_lret g hrt (by decide) (by decide) dX11_form_71 ⟨by rw [hc, opV_0]; rfl, by rw [hc, opS_0]; exact hM5, fr5⟩
