/-! ===== the model: features (printed by gen/mod_d5.py) ===== -/
def plB2 (x y : Int32) : Bool := inB x 0 99 && inB y 0 99
def sPla (S : Ms) (f : Nat) (x y d : Int32) : Ms := wA (wA (wA (wA (wA S 6 (40 * f + ca S 5 f) x) 7 (40 * f + ca S 5 f) y) 8 (40 * f + ca S 5 f) d) 9 (40 * f + ca S 5 f) (gi S 1)) 5 f (gA S 5 f + 1)
def cFeature (S : Ms) (k x y : Int32) : Int32 := if (!inB k 0 5 || !plB2 x y) = true then 1 else if gi S 2 = 24 then 2 else 0
def sFeature (S : Ms) (k x y : Int32) : Ms := sPla (wi (wA (wA (wA (wi S 0 0) 3 (cn S 2) k) 4 (cn S 2) (gi S 1)) 14 (cn S 2) (-1)) 2 (gi S 2 + 1)) (cn S 2) x y (gi S 1)
def isF (S : Ms) (f : Int32) : Bool := inB f 0 (gi S 2 - 1)
def cMove (S : Ms) (f x y d : Int32) : Int32 := if (!isF S f) = true then 1 else if (!plB2 x y || !inB d 0 9999) = true then 2 else if gA S 5 f.toNatClampNeg = 40 then 3 else 0
def sMove (S : Ms) (f x y d : Int32) : Ms := sPla (wi S 0 0) f.toNatClampNeg x y d
def cPart (S : Ms) (f w d : Int32) : Int32 := if (!(isF S f && (decide (w = -1) || isF S w))) = true then 1 else if (decide (f ≤ w) || !inB d 0 9999) = true then 2 else if gA S 10 f.toNatClampNeg = 40 then 3 else 0
def sPart (S : Ms) (f w d : Int32) : Ms := wA (wA (wA (wA (wi S 0 0) 11 (40 * f.toNatClampNeg + ca S 10 f.toNatClampNeg) w) 12 (40 * f.toNatClampNeg + ca S 10 f.toNatClampNeg) d) 13 (40 * f.toNatClampNeg + ca S 10 f.toNatClampNeg) (gi S 1)) 10 f.toNatClampNeg (gA S 10 f.toNatClampNeg + 1)
def cEnd (S : Ms) (f i d : Int32) : Int32 := if (!(isF S f && (decide (i = -1) || isF S i))) = true then 1 else if (decide (f = i) || !inB d 0 9999) = true then 2 else if ¬ gA S 14 f.toNatClampNeg = -1 then 3 else 0
def sEnd (S : Ms) (f i d : Int32) : Ms := wA (wA (wA (wi S 0 0) 14 f.toNatClampNeg d) 15 f.toNatClampNeg i) 16 f.toNatClampNeg (gi S 1)
set_option maxHeartbeats 4000000 in
set_option maxRecDepth 100000 in
theorem n_pla (E : Ev) {A : Nat → Nat} {m : Nat} {S : Ms} {M0 : Mm} (M : Mm) (hM : RM A m S M) (fr : FM A m M0 M) (f : Nat) (hf : f < 24) (h5 : gA S 5 f = nI (ca S 5 f)) (h4 : ca S 5 f < 40) (x y d : Int32) : CT E yX11_places cX11_places 6 none 1 0 0 [.ref m, .int (nI f), .int x, .int y, .int d] M (mAns A m (sPla S f x y d) M0 none) noX := by
  refine CT.of rfl (Nat.le_of_ble_eq_true rfl) (fun X g hrt hno hE hN hR hI => ?_)
  subst hE
  refine z_bipush (v := 40) g dX11_places_0 (by decide) ?_
  refine z_iload_n g dX11_places_2 rfl ?_
  refine z_imul g dX11_places_3 ?_
  rw [m40]
  refine z_aload_n g dX11_places_4 rfl ?_
  refine z_getR g fl_X11_16 hM.k0 (by decide) rfl (hM.ref (k := 5) (by decide)) dX11_places_5 ?_
  refine z_iload_n g dX11_places_8 rfl ?_
  refine z_ialdk g (hM.kA1 (k := 5) (by decide)) (by decide) (vp_in_nI (by rw [hM.lnI (k := 5) (by decide)]; show _ < 24; omega) (by rw [hM.lnI (k := 5) (by decide)]; decide)) dX11_places_9 ?_
  rw [nI_clamp (by omega), show fI _ (A 5) = gA S 5 from hM.row (k := 5) (by decide) (by decide)]
  refine z_iadd g dX11_places_10 ?_
  rw [h5, nI_add]
  refine z_istore g dX11_places_11 (by rw [hN]; decide) ?_
  refine z_aload_n g dX11_places_13 rfl ?_
  refine z_getR g fl_X11_19 hM.k0 (by decide) rfl (hM.ref (k := 6) (by decide)) dX11_places_14 ?_
  refine z_iload g dX11_places_17 rfl ?_
  refine z_iload_n g dX11_places_19 rfl ?_
  refine m_iast g hM fr 6 (by decide) (by show _ < 960; omega) dX11_places_20 (fun M1 hM1 fr1 => ?_)
  refine z_aload_n g dX11_places_21 rfl ?_
  refine z_getR g fl_X11_22 hM1.k0 (by decide) rfl (hM1.ref (k := 7) (by decide)) dX11_places_22 ?_
  refine z_iload g dX11_places_25 rfl ?_
  refine z_iload_n g dX11_places_27 rfl ?_
  refine m_iast g hM1 fr1 7 (by decide) (by show _ < 960; omega) dX11_places_28 (fun M2 hM2 fr2 => ?_)
  refine z_aload_n g dX11_places_29 rfl ?_
  refine z_getR g fl_X11_25 hM2.k0 (by decide) rfl (hM2.ref (k := 8) (by decide)) dX11_places_30 ?_
  refine z_iload g dX11_places_33 rfl ?_
  refine z_iload g dX11_places_35 rfl ?_
  refine m_iast g hM2 fr2 8 (by decide) (by show _ < 960; omega) dX11_places_37 (fun M3 hM3 fr3 => ?_)
  refine z_aload_n g dX11_places_38 rfl ?_
  refine z_getR g fl_X11_28 hM3.k0 (by decide) rfl (hM3.ref (k := 9) (by decide)) dX11_places_39 ?_
  refine z_iload g dX11_places_42 rfl ?_
  refine z_aload_n g dX11_places_44 rfl ?_
  refine z_getI g fl_X11_238 hM3.k0 (by decide) rfl dX11_places_45 ?_
  rw [show fI _ m 1 = gi S 1 from hM3.sc (k := 1) (by decide) (by decide)]
  refine m_iast g hM3 fr3 9 (by decide) (by show _ < 960; omega) dX11_places_48 (fun M4 hM4 fr4 => ?_)
  refine z_aload_n g dX11_places_49 rfl ?_
  refine z_getR g fl_X11_16 hM4.k0 (by decide) rfl (hM4.ref (k := 5) (by decide)) dX11_places_50 ?_
  refine z_iload_n g dX11_places_53 rfl ?_
  refine z_dup2 g dX11_places_54 rfl rfl ?_
  refine z_ialdk g (hM4.kA1 (k := 5) (by decide)) (by decide) (vp_in_nI (by rw [hM4.lnI (k := 5) (by decide)]; show _ < 24; omega) (by rw [hM4.lnI (k := 5) (by decide)]; decide)) dX11_places_55 ?_
  rw [nI_clamp (by omega), show fI _ (A 5) = gA S 5 from hM4.row (k := 5) (by decide) (by decide)]
  refine z_iconst (v := 1) g dX11_places_56 (by decide) ?_
  refine z_iadd g dX11_places_57 ?_
  refine m_iast g hM4 fr4 5 (by decide) (by show _ < 24; omega) dX11_places_58 (fun M5 hM5 fr5 => ?_)
  exact z_vret g hrt (by decide) (by decide) dX11_places_59 ⟨rfl, hM5, fr5⟩
def vFeature (S : Ms) (k x y : Int32) : Int32 := nI (cn S 2)
set_option maxHeartbeats 4000000 in
set_option maxRecDepth 100000 in
theorem m_feature (E : Ev) {A : Nat → Nat} {m : Nat} {S : Ms} (M : Mm) (hM : RM A m S M) (hV : INV S) (k x y : Int32) : CT E yX11_feature cX11_feature 4 (some .int) 4 0 0 [.ref m, .int k, .int x, .int y] M (mAns A m (opS (cFeature S k x y) S (sFeature S k x y)) M (some (.int (opV (cFeature S k x y) (vFeature S k x y) 0)))) noX := by
  refine CT.of rfl (Nat.le_of_ble_eq_true rfl) (fun X g hrt hno hE hN hR hI => ?_)
  subst hE
  obtain ⟨v1, v2, v17, v24, v31, v36, v51, v58, v59⟩ := hV.1
  obtain ⟨-, vF, vN, vM, vL, vX, vP, vQ, vT, vR, vS, vO⟩ := hV
  have fr0 := FM.rf (A := A) (m := m) (M := M)
  refine z_aload_n g dX11_feature_0 rfl ?_
  refine z_iload_n g dX11_feature_1 rfl ?_
  refine z_iconst (v := 0) g dX11_feature_2 (by decide) ?_
  refine z_iconst (v := 5) g dX11_feature_3 (by decide) ?_
  refine z_callS g _ _ cs_X11_189 (n_in _ M k 0 5) rfl (by rw [hR]; decide) (by rw [hR]; decide) (by rw [hR]; decide) (Nat.le_of_ble_eq_true rfl) rfl dX11_feature_4 (fun _ _ h => False.elim h) (fun r_4 M_4 h_4 => ?_)
  obtain ⟨rfl, rfl⟩ := h_4
  refine z_if_eq (tgt := 18) g dX11_feature_7 (by decide) (fun c_7 => ?_) (fun c_7 => ?_)
  · first | rw [b2i_0] at c_7 | rw [b2i_n0] at c_7 | skip
    refine z_iconst (v := 1) g dX11_feature_18 (by decide) ?_
    refine z_goto (tgt := 36) g dX11_feature_19 (by decide) ?_
    have hc : cFeature S k x y = 1 := by simp [cFeature, plB2, c_7]
    refine z_callV g _ _ cv_X11_234 (n_holds _ M hM fr0 1) hM.k0 (by decide) rfl (by rw [hR]; decide) (by rw [hR]; decide) (by rw [hR]; decide) (Nat.le_of_ble_eq_true rfl) rfl dX11_feature_36 (fun _ _ h => False.elim h) (fun r_36 M1 h_36 => ?_)
    obtain ⟨rfl, hM1, fr1⟩ := h_36
    refine z_if_ne (tgt := 44) g dX11_feature_39 (by decide) (fun c_39 => absurd c_39 (by decide)) (fun _ => ?_)
    refine z_iconst (v := 0) g dX11_feature_42 (by decide) ?_
    exact z_iret g hrt rfl (by decide) (by decide) dX11_feature_43 ⟨by rw [hc, opV_1], by rw [hc, opS_1]; exact hM1, fr1⟩
  · first | rw [b2i_0] at c_7 | rw [b2i_n0] at c_7 | skip
    refine z_iload_n g dX11_feature_10 rfl ?_
    refine z_iload_n g dX11_feature_11 rfl ?_
    refine z_callS g _ _ cs_X11_230 (n_isP _ M x y) rfl (by rw [hR]; decide) (by rw [hR]; decide) (by rw [hR]; decide) (Nat.le_of_ble_eq_true rfl) rfl dX11_feature_12 (fun _ _ h => False.elim h) (fun r_12 M_12 h_12 => ?_)
    obtain ⟨rfl, rfl⟩ := h_12
    refine z_if_ne (tgt := 22) g dX11_feature_15 (by decide) (fun c_15 => ?_) (fun c_15 => ?_)
    · first | rw [b2i_0] at c_15 | rw [b2i_n0] at c_15 | skip
      refine z_aload_n g dX11_feature_22 rfl ?_
      refine z_getI g fl_X11_186 hM.k0 (by decide) rfl dX11_feature_23 ?_
      rw [show fI _ m 2 = gi S 2 from hM.sc (k := 2) (by decide) (by decide)]
      refine z_bipush (v := 24) g dX11_feature_26 (by decide) ?_
      refine z_icmp_ne (tgt := 35) g dX11_feature_28 (by decide) (fun c_28 => ?_) (fun c_28 => ?_)
      · refine z_iconst (v := 0) g dX11_feature_35 (by decide) ?_
        have hc : cFeature S k x y = 0 := by simp [cFeature, plB2, c_7, c_15, eq_false c_28]
        refine z_callV g _ _ cv_X11_234 (n_holds _ M hM fr0 0) hM.k0 (by decide) rfl (by rw [hR]; decide) (by rw [hR]; decide) (by rw [hR]; decide) (Nat.le_of_ble_eq_true rfl) rfl dX11_feature_36 (fun _ _ h => False.elim h) (fun r_36 M2 h_36 => ?_)
        obtain ⟨rfl, hM2, fr2⟩ := h_36
        refine z_if_ne (tgt := 44) g dX11_feature_39 (by decide) (fun _ => ?_) (fun c_39 => absurd c_39 (by decide))
        have hn24 : cn S 2 < 24 := by
          have h8 := v2.2
          have h9 : ¬ cn S 2 = 24 := fun z => c_28 (by rw [v2.1, z]; rfl)
          omega
        have hcn : gi S 2 = nI (cn S 2) := v2.1
        refine z_aload_n g dX11_feature_44 rfl ?_
        refine z_getR g fl_X11_7 hM2.k0 (by decide) rfl (hM2.ref (k := 3) (by decide)) dX11_feature_45 ?_
        refine z_aload_n g dX11_feature_48 rfl ?_
        refine z_getI g fl_X11_186 hM2.k0 (by decide) rfl dX11_feature_49 ?_
        rw [show fI _ m 2 = gi S 2 from hM2.sc (k := 2) (by decide) (by decide), v2.1]
        refine z_iload_n g dX11_feature_52 rfl ?_
        refine m_iast g hM2 fr2 3 (by decide) (by show _ < 24; omega) dX11_feature_53 (fun M3 hM3 fr3 => ?_)
        refine z_aload_n g dX11_feature_54 rfl ?_
        refine z_getR g fl_X11_13 hM3.k0 (by decide) rfl (hM3.ref (k := 4) (by decide)) dX11_feature_55 ?_
        refine z_aload_n g dX11_feature_58 rfl ?_
        refine z_getI g fl_X11_186 hM3.k0 (by decide) rfl dX11_feature_59 ?_
        rw [show fI _ m 2 = gi S 2 from hM3.sc (k := 2) (by decide) (by decide), v2.1]
        refine z_aload_n g dX11_feature_62 rfl ?_
        refine z_getI g fl_X11_238 hM3.k0 (by decide) rfl dX11_feature_63 ?_
        rw [show fI _ m 1 = gi S 1 from hM3.sc (k := 1) (by decide) (by decide)]
        refine m_iast g hM3 fr3 4 (by decide) (by show _ < 24; omega) dX11_feature_66 (fun M4 hM4 fr4 => ?_)
        refine z_aload_n g dX11_feature_67 rfl ?_
        refine z_getR g fl_X11_43 hM4.k0 (by decide) rfl (hM4.ref (k := 14) (by decide)) dX11_feature_68 ?_
        refine z_aload_n g dX11_feature_71 rfl ?_
        refine z_getI g fl_X11_186 hM4.k0 (by decide) rfl dX11_feature_72 ?_
        rw [show fI _ m 2 = gi S 2 from hM4.sc (k := 2) (by decide) (by decide), v2.1]
        refine z_iconst (v := (-1)) g dX11_feature_75 (by decide) ?_
        refine m_iast g hM4 fr4 14 (by decide) (by show _ < 24; omega) dX11_feature_76 (fun M5 hM5 fr5 => ?_)
        refine z_aload_n g dX11_feature_77 rfl ?_
        refine z_dup g dX11_feature_78 rfl ?_
        refine z_getI g fl_X11_186 hM5.k0 (by decide) rfl dX11_feature_79 ?_
        rw [show fI _ m 2 = gi S 2 from hM5.sc (k := 2) (by decide) (by decide), v2.1]
        refine z_iconst (v := 1) g dX11_feature_82 (by decide) ?_
        refine z_iadd g dX11_feature_83 ?_
        rw [← hcn]
        refine m_puti g hM5 fr5 (k := 2) fp_X11_186 rfl dX11_feature_84 (fun M6 hM6 fr6 => ?_)
        refine z_aload_n g dX11_feature_87 rfl ?_
        refine z_aload_n g dX11_feature_88 rfl ?_
        refine z_getI g fl_X11_186 hM6.k0 (by decide) rfl dX11_feature_89 ?_
        rw [show fI _ m 2 = gi S 2 + 1 from hM6.sc (k := 2) (by decide) (by decide), v2.1, nI_s]
        refine z_iconst (v := 1) g dX11_feature_92 (by decide) ?_
        refine z_isub g dX11_feature_93 ?_
        refine z_iload_n g dX11_feature_94 rfl ?_
        refine z_iload_n g dX11_feature_95 rfl ?_
        refine z_aload_n g dX11_feature_96 rfl ?_
        refine z_getI g fl_X11_238 hM6.k0 (by decide) rfl dX11_feature_97 ?_
        rw [show fI _ m 1 = gi S 1 from hM6.sc (k := 1) (by decide) (by decide)]
        rw [show nI (cn S 2 + 1) - 1 = nI (cn S 2) from nI_pred _]
        refine z_callV g _ _ cv_X11_241 (n_pla _ M6 hM6 fr6 (cn S 2) hn24 (by show gA S 5 (cn S 2) = nI (ca S 5 (cn S 2)); rw [ca, (vN (cn S 2) (Nat.le_refl _) hn24).1]; rfl) (by show ca S 5 (cn S 2) < 40; rw [ca, (vN (cn S 2) (Nat.le_refl _) hn24).1]; decide) x y (gi S 1)) hM6.k0 (by decide) rfl (by rw [hR]; decide) (by rw [hR]; decide) (by rw [hR]; decide) (Nat.le_of_ble_eq_true rfl) rfl dX11_feature_100 (fun _ _ h => False.elim h) (fun r_100 M7 h_100 => ?_)
        obtain ⟨rfl, hM7, fr7⟩ := h_100
        refine z_aload_n g dX11_feature_103 rfl ?_
        refine z_getI g fl_X11_186 hM7.k0 (by decide) rfl dX11_feature_104 ?_
        rw [show fI _ m 2 = gi S 2 + 1 from hM7.sc (k := 2) (by decide) (by decide), v2.1, nI_s]
        refine z_iconst (v := 1) g dX11_feature_107 (by decide) ?_
        refine z_isub g dX11_feature_108 ?_
        exact z_iret g hrt rfl (by decide) (by decide) dX11_feature_109 ⟨by rw [hc, opV_0]; rw [show nI (cn S 2 + 1) - 1 = nI (cn S 2) from nI_pred _]; rfl, by rw [hc, opS_0]; exact hM7, fr7⟩
      · refine z_iconst (v := 2) g dX11_feature_31 (by decide) ?_
        refine z_goto (tgt := 36) g dX11_feature_32 (by decide) ?_
        have hc : cFeature S k x y = 2 := by simp [cFeature, plB2, c_7, c_15, eq_true c_28]
        refine z_callV g _ _ cv_X11_234 (n_holds _ M hM fr0 2) hM.k0 (by decide) rfl (by rw [hR]; decide) (by rw [hR]; decide) (by rw [hR]; decide) (Nat.le_of_ble_eq_true rfl) rfl dX11_feature_36 (fun _ _ h => False.elim h) (fun r_36 M8 h_36 => ?_)
        obtain ⟨rfl, hM8, fr8⟩ := h_36
        refine z_if_ne (tgt := 44) g dX11_feature_39 (by decide) (fun c_39 => absurd c_39 (by decide)) (fun _ => ?_)
        refine z_iconst (v := 0) g dX11_feature_42 (by decide) ?_
        exact z_iret g hrt rfl (by decide) (by decide) dX11_feature_43 ⟨by rw [hc, opV_2], by rw [hc, opS_2]; exact hM8, fr8⟩
    · first | rw [b2i_0] at c_15 | rw [b2i_n0] at c_15 | skip
      refine z_iconst (v := 1) g dX11_feature_18 (by decide) ?_
      refine z_goto (tgt := 36) g dX11_feature_19 (by decide) ?_
      have hc : cFeature S k x y = 1 := by simp [cFeature, plB2, c_7, c_15]
      refine z_callV g _ _ cv_X11_234 (n_holds _ M hM fr0 1) hM.k0 (by decide) rfl (by rw [hR]; decide) (by rw [hR]; decide) (by rw [hR]; decide) (Nat.le_of_ble_eq_true rfl) rfl dX11_feature_36 (fun _ _ h => False.elim h) (fun r_36 M9 h_36 => ?_)
      obtain ⟨rfl, hM9, fr9⟩ := h_36
      refine z_if_ne (tgt := 44) g dX11_feature_39 (by decide) (fun c_39 => absurd c_39 (by decide)) (fun _ => ?_)
      refine z_iconst (v := 0) g dX11_feature_42 (by decide) ?_
      exact z_iret g hrt rfl (by decide) (by decide) dX11_feature_43 ⟨by rw [hc, opV_1], by rw [hc, opS_1]; exact hM9, fr9⟩
set_option maxHeartbeats 4000000 in
set_option maxRecDepth 100000 in
theorem m_move (E : Ev) {A : Nat → Nat} {m : Nat} {S : Ms} (M : Mm) (hM : RM A m S M) (hV : INV S) (f x y d : Int32) : CT E yX11_move cX11_move 5 none 4 0 0 [.ref m, .int f, .int x, .int y, .int d] M (mAns A m (opS (cMove S f x y d) S (sMove S f x y d)) M none) noX := by
  refine CT.of rfl (Nat.le_of_ble_eq_true rfl) (fun X g hrt hno hE hN hR hI => ?_)
  subst hE
  obtain ⟨v1, v2, v17, v24, v31, v36, v51, v58, v59⟩ := hV.1
  obtain ⟨-, vF, vN, vM, vL, vX, vP, vQ, vT, vR, vS, vO⟩ := hV
  have fr0 := FM.rf (A := A) (m := m) (M := M)
  rcases inN (n := cn S 2) (by have := v2.2; omega) f with hF | ⟨j, hj, rfl, hF⟩
  · rw [← v2.1] at hF
    refine z_aload_n g dX11_move_0 rfl ?_
    refine z_aload_n g dX11_move_1 rfl ?_
    refine z_iload_n g dX11_move_2 rfl ?_
    refine z_callV g _ _ cv_X11_245 (n_isF _ M hM f) hM.k0 (by decide) rfl (by rw [hR]; decide) (by rw [hR]; decide) (by rw [hR]; decide) (Nat.le_of_ble_eq_true rfl) rfl dX11_move_3 (fun _ _ h => False.elim h) (fun r_3 M_3 h_3 => ?_)
    obtain ⟨rfl, rfl⟩ := h_3
    rw [hF]
    refine z_if_ne (tgt := 13) g dX11_move_6 (by decide) (fun c_6 => absurd c_6 (by decide)) (fun _ => ?_)
    refine z_iconst (v := 1) g dX11_move_9 (by decide) ?_
    refine z_goto (tgt := 49) g dX11_move_10 (by decide) ?_
    have hc : cMove S f x y d = 1 := by simp [cMove, isF, plB2, hF]
    refine z_callV g _ _ cv_X11_234 (n_holds _ M hM fr0 1) hM.k0 (by decide) rfl (by rw [hR]; decide) (by rw [hR]; decide) (by rw [hR]; decide) (Nat.le_of_ble_eq_true rfl) rfl dX11_move_49 (fun _ _ h => False.elim h) (fun r_49 M1 h_49 => ?_)
    obtain ⟨rfl, hM1, fr1⟩ := h_49
    refine z_if_eq (tgt := 64) g dX11_move_52 (by decide) (fun _ => ?_) (fun c_52 => absurd c_52 (by decide))
    exact z_vret g hrt (by decide) (by decide) dX11_move_64 ⟨rfl, by rw [hc, opS_1]; exact hM1, fr1⟩
  · rw [← v2.1] at hF
    have hj24 : j < 24 := by have := v2.2; omega
    refine z_aload_n g dX11_move_0 rfl ?_
    refine z_aload_n g dX11_move_1 rfl ?_
    refine z_iload_n g dX11_move_2 rfl ?_
    refine z_callV g _ _ cv_X11_245 (n_isF _ M hM (nI j)) hM.k0 (by decide) rfl (by rw [hR]; decide) (by rw [hR]; decide) (by rw [hR]; decide) (Nat.le_of_ble_eq_true rfl) rfl dX11_move_3 (fun _ _ h => False.elim h) (fun r_3 M_3 h_3 => ?_)
    obtain ⟨rfl, rfl⟩ := h_3
    rw [hF]
    have hcl : (nI j).toNatClampNeg = j := nI_clamp (by omega)
    have h5 : gA S 5 j = nI (ca S 5 j) := (vF j hj).2.2.1.1
    have h540 := (vF j hj).2.2.1.2
    refine z_if_ne (tgt := 13) g dX11_move_6 (by decide) (fun _ => ?_) (fun c => absurd c (by decide))
    refine z_iload_n g dX11_move_13 rfl ?_
    refine z_iload_n g dX11_move_14 rfl ?_
    refine z_callS g _ _ cs_X11_230 (n_isP _ M x y) rfl (by rw [hR]; decide) (by rw [hR]; decide) (by rw [hR]; decide) (Nat.le_of_ble_eq_true rfl) rfl dX11_move_15 (fun _ _ h => False.elim h) (fun r_15 M_15 h_15 => ?_)
    obtain ⟨rfl, rfl⟩ := h_15
    refine z_if_eq (tgt := 29) g dX11_move_18 (by decide) (fun c_18 => ?_) (fun c_18 => ?_)
    · first | rw [b2i_0] at c_18 | rw [b2i_n0] at c_18 | skip
      refine z_iconst (v := 2) g dX11_move_29 (by decide) ?_
      refine z_goto (tgt := 49) g dX11_move_30 (by decide) ?_
      have hc : cMove S (nI j) x y d = 2 := by simp [cMove, isF, plB2, hF, hcl, h5, c_18]
      refine z_callV g _ _ cv_X11_234 (n_holds _ M hM fr0 2) hM.k0 (by decide) rfl (by rw [hR]; decide) (by rw [hR]; decide) (by rw [hR]; decide) (Nat.le_of_ble_eq_true rfl) rfl dX11_move_49 (fun _ _ h => False.elim h) (fun r_49 M1 h_49 => ?_)
      obtain ⟨rfl, hM1, fr1⟩ := h_49
      refine z_if_eq (tgt := 64) g dX11_move_52 (by decide) (fun _ => ?_) (fun c_52 => absurd c_52 (by decide))
      exact z_vret g hrt (by decide) (by decide) dX11_move_64 ⟨rfl, by rw [hc, opS_2]; exact hM1, fr1⟩
    · first | rw [b2i_0] at c_18 | rw [b2i_n0] at c_18 | skip
      refine z_iload g dX11_move_21 rfl ?_
      refine z_callS g _ _ cs_X11_248 (n_isD _ M d) rfl (by rw [hR]; decide) (by rw [hR]; decide) (by rw [hR]; decide) (Nat.le_of_ble_eq_true rfl) rfl dX11_move_23 (fun _ _ h => False.elim h) (fun r_23 M_23 h_23 => ?_)
      obtain ⟨rfl, rfl⟩ := h_23
      refine z_if_ne (tgt := 33) g dX11_move_26 (by decide) (fun c_26 => ?_) (fun c_26 => ?_)
      · first | rw [b2i_0] at c_26 | rw [b2i_n0] at c_26 | skip
        refine z_aload_n g dX11_move_33 rfl ?_
        refine z_getR g fl_X11_16 hM.k0 (by decide) rfl (hM.ref (k := 5) (by decide)) dX11_move_34 ?_
        refine z_iload_n g dX11_move_37 rfl ?_
        refine z_ialdk g (hM.kA1 (k := 5) (by decide)) (by decide) (vp_in_nI (by rw [hM.lnI (k := 5) (by decide)]; show _ < 24; omega) (by rw [hM.lnI (k := 5) (by decide)]; decide)) dX11_move_38 ?_
        rw [nI_clamp (by omega), show fI _ (A 5) = gA S 5 from hM.row (k := 5) (by decide) (by decide)]
        rw [h5]
        refine z_bipush (v := 40) g dX11_move_39 (by decide) ?_
        refine z_icmp_ne (tgt := 48) g dX11_move_41 (by decide) (fun c_41 => ?_) (fun c_41 => ?_)
        · refine z_iconst (v := 0) g dX11_move_48 (by decide) ?_
          have hc : cMove S (nI j) x y d = 0 := by simp [cMove, isF, plB2, hF, hcl, h5, c_18, c_26, eq_false c_41]
          refine z_callV g _ _ cv_X11_234 (n_holds _ M hM fr0 0) hM.k0 (by decide) rfl (by rw [hR]; decide) (by rw [hR]; decide) (by rw [hR]; decide) (Nat.le_of_ble_eq_true rfl) rfl dX11_move_49 (fun _ _ h => False.elim h) (fun r_49 M2 h_49 => ?_)
          obtain ⟨rfl, hM2, fr2⟩ := h_49
          refine z_if_eq (tgt := 64) g dX11_move_52 (by decide) (fun c_52 => absurd c_52 (by decide)) (fun _ => ?_)
          refine z_aload_n g dX11_move_55 rfl ?_
          refine z_iload_n g dX11_move_56 rfl ?_
          refine z_iload_n g dX11_move_57 rfl ?_
          refine z_iload_n g dX11_move_58 rfl ?_
          refine z_iload g dX11_move_59 rfl ?_
          refine z_callV g _ _ cv_X11_241 (n_pla _ M2 hM2 fr2 j hj24 h5 (by show ca S 5 j < 40; have h9 : ¬ ca S 5 j = 40 := fun z => c_41 (by rw [z]; rfl); omega) x y d) hM2.k0 (by decide) rfl (by rw [hR]; decide) (by rw [hR]; decide) (by rw [hR]; decide) (Nat.le_of_ble_eq_true rfl) rfl dX11_move_61 (fun _ _ h => False.elim h) (fun r_61 M3 h_61 => ?_)
          obtain ⟨rfl, hM3, fr3⟩ := h_61
          exact z_vret g hrt (by decide) (by decide) dX11_move_64 ⟨rfl, by rw [hc, opS_0, sMove, hcl]; exact hM3, fr3⟩
        · refine z_iconst (v := 3) g dX11_move_44 (by decide) ?_
          refine z_goto (tgt := 49) g dX11_move_45 (by decide) ?_
          have hc : cMove S (nI j) x y d = 3 := by simp [cMove, isF, plB2, hF, hcl, h5, c_18, c_26, eq_true c_41]
          refine z_callV g _ _ cv_X11_234 (n_holds _ M hM fr0 3) hM.k0 (by decide) rfl (by rw [hR]; decide) (by rw [hR]; decide) (by rw [hR]; decide) (Nat.le_of_ble_eq_true rfl) rfl dX11_move_49 (fun _ _ h => False.elim h) (fun r_49 M4 h_49 => ?_)
          obtain ⟨rfl, hM4, fr4⟩ := h_49
          refine z_if_eq (tgt := 64) g dX11_move_52 (by decide) (fun _ => ?_) (fun c_52 => absurd c_52 (by decide))
          exact z_vret g hrt (by decide) (by decide) dX11_move_64 ⟨rfl, by rw [hc, opS_3]; exact hM4, fr4⟩
      · first | rw [b2i_0] at c_26 | rw [b2i_n0] at c_26 | skip
        refine z_iconst (v := 2) g dX11_move_29 (by decide) ?_
        refine z_goto (tgt := 49) g dX11_move_30 (by decide) ?_
        have hc : cMove S (nI j) x y d = 2 := by simp [cMove, isF, plB2, hF, hcl, h5, c_18, c_26]
        refine z_callV g _ _ cv_X11_234 (n_holds _ M hM fr0 2) hM.k0 (by decide) rfl (by rw [hR]; decide) (by rw [hR]; decide) (by rw [hR]; decide) (Nat.le_of_ble_eq_true rfl) rfl dX11_move_49 (fun _ _ h => False.elim h) (fun r_49 M5 h_49 => ?_)
        obtain ⟨rfl, hM5, fr5⟩ := h_49
        refine z_if_eq (tgt := 64) g dX11_move_52 (by decide) (fun _ => ?_) (fun c_52 => absurd c_52 (by decide))
        exact z_vret g hrt (by decide) (by decide) dX11_move_64 ⟨rfl, by rw [hc, opS_2]; exact hM5, fr5⟩
set_option maxHeartbeats 4000000 in
set_option maxRecDepth 100000 in
theorem m_part (E : Ev) {A : Nat → Nat} {m : Nat} {S : Ms} (M : Mm) (hM : RM A m S M) (hV : INV S) (f w d : Int32) : CT E yX11_part cX11_part 6 none 4 0 0 [.ref m, .int f, .int w, .int d] M (mAns A m (opS (cPart S f w d) S (sPart S f w d)) M none) noX := by
  refine CT.of rfl (Nat.le_of_ble_eq_true rfl) (fun X g hrt hno hE hN hR hI => ?_)
  subst hE
  obtain ⟨v1, v2, v17, v24, v31, v36, v51, v58, v59⟩ := hV.1
  obtain ⟨-, vF, vN, vM, vL, vX, vP, vQ, vT, vR, vS, vO⟩ := hV
  have fr0 := FM.rf (A := A) (m := m) (M := M)
  rcases inN (n := cn S 2) (by have := v2.2; omega) f with hF | ⟨j, hj, rfl, hF⟩
  · rw [← v2.1] at hF
    refine z_aload_n g dX11_part_0 rfl ?_
    refine z_iload_n g dX11_part_1 rfl ?_
    refine z_callV g _ _ cv_X11_245 (n_isF _ M hM f) hM.k0 (by decide) rfl (by rw [hR]; decide) (by rw [hR]; decide) (by rw [hR]; decide) (Nat.le_of_ble_eq_true rfl) rfl dX11_part_2 (fun _ _ h => False.elim h) (fun r_2 M_2 h_2 => ?_)
    obtain ⟨rfl, rfl⟩ := h_2
    rw [hF]
    refine z_if_eq (tgt := 25) g dX11_part_5 (by decide) (fun _ => ?_) (fun c_5 => absurd c_5 (by decide))
    refine z_iconst (v := 0) g dX11_part_25 (by decide) ?_
    refine z_istore g dX11_part_26 (by rw [hN]; decide) ?_
    refine z_aload_n g dX11_part_28 rfl ?_
    refine z_iload g dX11_part_29 rfl ?_
    refine z_if_ne (tgt := 38) g dX11_part_31 (by decide) (fun c_31 => absurd c_31 (by decide)) (fun _ => ?_)
    refine z_iconst (v := 1) g dX11_part_34 (by decide) ?_
    refine z_goto (tgt := 70) g dX11_part_35 (by decide) ?_
    have hc : cPart S f w d = 1 := by simp [cPart, isF, hF]
    refine z_callV g _ _ cv_X11_234 (n_holds _ M hM fr0 1) hM.k0 (by decide) rfl (by rw [hR]; decide) (by rw [hR]; decide) (by rw [hR]; decide) (Nat.le_of_ble_eq_true rfl) rfl dX11_part_70 (fun _ _ h => False.elim h) (fun r_70 M1 h_70 => ?_)
    obtain ⟨rfl, hM1, fr1⟩ := h_70
    refine z_if_eq (tgt := 126) g dX11_part_73 (by decide) (fun _ => ?_) (fun c_73 => absurd c_73 (by decide))
    exact z_vret g hrt (by decide) (by decide) dX11_part_126 ⟨rfl, by rw [hc, opS_1]; exact hM1, fr1⟩
  · rw [← v2.1] at hF
    have hj24 : j < 24 := by have := v2.2; omega
    refine z_aload_n g dX11_part_0 rfl ?_
    refine z_iload_n g dX11_part_1 rfl ?_
    refine z_callV g _ _ cv_X11_245 (n_isF _ M hM (nI j)) hM.k0 (by decide) rfl (by rw [hR]; decide) (by rw [hR]; decide) (by rw [hR]; decide) (Nat.le_of_ble_eq_true rfl) rfl dX11_part_2 (fun _ _ h => False.elim h) (fun r_2 M_2 h_2 => ?_)
    obtain ⟨rfl, rfl⟩ := h_2
    rw [hF]
    have hcl : (nI j).toNatClampNeg = j := nI_clamp (by omega)
    have h10 : gA S 10 j = nI (ca S 10 j) := (vF j hj).2.2.2.2.1.1
    have h1040 := (vF j hj).2.2.2.2.1.2
    refine z_if_eq (tgt := 25) g dX11_part_5 (by decide) (fun c => absurd c (by decide)) (fun _ => ?_)
    refine z_iload_n g dX11_part_8 rfl ?_
    refine z_iconst (v := (-1)) g dX11_part_9 (by decide) ?_
    refine z_icmp_eq (tgt := 21) g dX11_part_10 (by decide) (fun c_10 => ?_) (fun c_10 => ?_)
    · refine z_iconst (v := 1) g dX11_part_21 (by decide) ?_
      refine z_goto (tgt := 26) g dX11_part_22 (by decide) ?_
      refine z_istore g dX11_part_26 (by rw [hN]; decide) ?_
      refine z_aload_n g dX11_part_28 rfl ?_
      refine z_iload g dX11_part_29 rfl ?_
      refine z_if_ne (tgt := 38) g dX11_part_31 (by decide) (fun _ => ?_) (fun c_31 => absurd c_31 (by decide))
      refine z_iload_n g dX11_part_38 rfl ?_
      refine z_iload_n g dX11_part_39 rfl ?_
      refine z_icmp_ge (tgt := 50) g dX11_part_40 (by decide) (fun c_40 => ?_) (fun c_40 => ?_)
      · refine z_iconst (v := 2) g dX11_part_50 (by decide) ?_
        refine z_goto (tgt := 70) g dX11_part_51 (by decide) ?_
        have hc : cPart S (nI j) w d = 2 := by simp [cPart, isF, hF, hcl, h10, eq_true c_10, eq_true c_40]
        refine z_callV g _ _ cv_X11_234 (n_holds _ M hM fr0 2) hM.k0 (by decide) rfl (by rw [hR]; decide) (by rw [hR]; decide) (by rw [hR]; decide) (Nat.le_of_ble_eq_true rfl) rfl dX11_part_70 (fun _ _ h => False.elim h) (fun r_70 M1 h_70 => ?_)
        obtain ⟨rfl, hM1, fr1⟩ := h_70
        refine z_if_eq (tgt := 126) g dX11_part_73 (by decide) (fun _ => ?_) (fun c_73 => absurd c_73 (by decide))
        exact z_vret g hrt (by decide) (by decide) dX11_part_126 ⟨rfl, by rw [hc, opS_2]; exact hM1, fr1⟩
      · refine z_iload_n g dX11_part_43 rfl ?_
        refine z_callS g _ _ cs_X11_248 (n_isD _ M d) rfl (by rw [hR]; decide) (by rw [hR]; decide) (by rw [hR]; decide) (Nat.le_of_ble_eq_true rfl) rfl dX11_part_44 (fun _ _ h => False.elim h) (fun r_44 M_44 h_44 => ?_)
        obtain ⟨rfl, rfl⟩ := h_44
        refine z_if_ne (tgt := 54) g dX11_part_47 (by decide) (fun c_47 => ?_) (fun c_47 => ?_)
        · first | rw [b2i_0] at c_47 | rw [b2i_n0] at c_47 | skip
          refine z_aload_n g dX11_part_54 rfl ?_
          refine z_getR g fl_X11_31 hM.k0 (by decide) rfl (hM.ref (k := 10) (by decide)) dX11_part_55 ?_
          refine z_iload_n g dX11_part_58 rfl ?_
          refine z_ialdk g (hM.kA1 (k := 10) (by decide)) (by decide) (vp_in_nI (by rw [hM.lnI (k := 10) (by decide)]; show _ < 24; omega) (by rw [hM.lnI (k := 10) (by decide)]; decide)) dX11_part_59 ?_
          rw [nI_clamp (by omega), show fI _ (A 10) = gA S 10 from hM.row (k := 10) (by decide) (by decide)]
          rw [h10]
          refine z_bipush (v := 40) g dX11_part_60 (by decide) ?_
          refine z_icmp_ne (tgt := 69) g dX11_part_62 (by decide) (fun c_62 => ?_) (fun c_62 => ?_)
          · refine z_iconst (v := 0) g dX11_part_69 (by decide) ?_
            have hc : cPart S (nI j) w d = 0 := by simp [cPart, isF, hF, hcl, h10, eq_true c_10, eq_false c_40, c_47, eq_false c_62]
            refine z_callV g _ _ cv_X11_234 (n_holds _ M hM fr0 0) hM.k0 (by decide) rfl (by rw [hR]; decide) (by rw [hR]; decide) (by rw [hR]; decide) (Nat.le_of_ble_eq_true rfl) rfl dX11_part_70 (fun _ _ h => False.elim h) (fun r_70 M2 h_70 => ?_)
            obtain ⟨rfl, hM2, fr2⟩ := h_70
            have h10b : ca S 10 j < 40 := by have h9 : ¬ ca S 10 j = 40 := fun z => c_62 (by rw [z]; rfl); omega
            refine z_if_eq (tgt := 126) g dX11_part_73 (by decide) (fun c => absurd c (by decide)) (fun _ => ?_)
            refine z_bipush (v := 40) g dX11_part_76 (by decide) ?_
            refine z_iload_n g dX11_part_78 rfl ?_
            refine z_imul g dX11_part_79 ?_
            rw [m40]
            refine z_aload_n g dX11_part_80 rfl ?_
            refine z_getR g fl_X11_31 hM2.k0 (by decide) rfl (hM2.ref (k := 10) (by decide)) dX11_part_81 ?_
            refine z_iload_n g dX11_part_84 rfl ?_
            refine z_ialdk g (hM2.kA1 (k := 10) (by decide)) (by decide) (vp_in_nI (by rw [hM2.lnI (k := 10) (by decide)]; show _ < 24; omega) (by rw [hM2.lnI (k := 10) (by decide)]; decide)) dX11_part_85 ?_
            rw [nI_clamp (by omega), show fI _ (A 10) = gA S 10 from hM2.row (k := 10) (by decide) (by decide)]
            rw [h10]
            refine z_iadd g dX11_part_86 ?_
            rw [nI_add]
            refine z_istore g dX11_part_87 (by rw [hN]; decide) ?_
            refine z_aload_n g dX11_part_89 rfl ?_
            refine z_getR g fl_X11_34 hM2.k0 (by decide) rfl (hM2.ref (k := 11) (by decide)) dX11_part_90 ?_
            refine z_iload g dX11_part_93 rfl ?_
            refine z_iload_n g dX11_part_95 rfl ?_
            refine m_iast g hM2 fr2 11 (by decide) (by show _ < 960; omega) dX11_part_96 (fun M3 hM3 fr3 => ?_)
            refine z_aload_n g dX11_part_97 rfl ?_
            refine z_getR g fl_X11_37 hM3.k0 (by decide) rfl (hM3.ref (k := 12) (by decide)) dX11_part_98 ?_
            refine z_iload g dX11_part_101 rfl ?_
            refine z_iload_n g dX11_part_103 rfl ?_
            refine m_iast g hM3 fr3 12 (by decide) (by show _ < 960; omega) dX11_part_104 (fun M4 hM4 fr4 => ?_)
            refine z_aload_n g dX11_part_105 rfl ?_
            refine z_getR g fl_X11_40 hM4.k0 (by decide) rfl (hM4.ref (k := 13) (by decide)) dX11_part_106 ?_
            refine z_iload g dX11_part_109 rfl ?_
            refine z_aload_n g dX11_part_111 rfl ?_
            refine z_getI g fl_X11_238 hM4.k0 (by decide) rfl dX11_part_112 ?_
            rw [show fI _ m 1 = gi S 1 from hM4.sc (k := 1) (by decide) (by decide)]
            refine m_iast g hM4 fr4 13 (by decide) (by show _ < 960; omega) dX11_part_115 (fun M5 hM5 fr5 => ?_)
            refine z_aload_n g dX11_part_116 rfl ?_
            refine z_getR g fl_X11_31 hM5.k0 (by decide) rfl (hM5.ref (k := 10) (by decide)) dX11_part_117 ?_
            refine z_iload_n g dX11_part_120 rfl ?_
            refine z_dup2 g dX11_part_121 rfl rfl ?_
            refine z_ialdk g (hM5.kA1 (k := 10) (by decide)) (by decide) (vp_in_nI (by rw [hM5.lnI (k := 10) (by decide)]; show _ < 24; omega) (by rw [hM5.lnI (k := 10) (by decide)]; decide)) dX11_part_122 ?_
            rw [nI_clamp (by omega), show fI _ (A 10) = gA S 10 from hM5.row (k := 10) (by decide) (by decide)]
            refine z_iconst (v := 1) g dX11_part_123 (by decide) ?_
            refine z_iadd g dX11_part_124 ?_
            refine m_iast g hM5 fr5 10 (by decide) (by show _ < 24; omega) dX11_part_125 (fun M6 hM6 fr6 => ?_)
            exact z_vret g hrt (by decide) (by decide) dX11_part_126 ⟨rfl, by rw [hc, opS_0, sPart, hcl]; exact hM6, fr6⟩
          · refine z_iconst (v := 3) g dX11_part_65 (by decide) ?_
            refine z_goto (tgt := 70) g dX11_part_66 (by decide) ?_
            have hc : cPart S (nI j) w d = 3 := by simp [cPart, isF, hF, hcl, h10, eq_true c_10, eq_false c_40, c_47, eq_true c_62]
            refine z_callV g _ _ cv_X11_234 (n_holds _ M hM fr0 3) hM.k0 (by decide) rfl (by rw [hR]; decide) (by rw [hR]; decide) (by rw [hR]; decide) (Nat.le_of_ble_eq_true rfl) rfl dX11_part_70 (fun _ _ h => False.elim h) (fun r_70 M7 h_70 => ?_)
            obtain ⟨rfl, hM7, fr7⟩ := h_70
            refine z_if_eq (tgt := 126) g dX11_part_73 (by decide) (fun _ => ?_) (fun c_73 => absurd c_73 (by decide))
            exact z_vret g hrt (by decide) (by decide) dX11_part_126 ⟨rfl, by rw [hc, opS_3]; exact hM7, fr7⟩
        · first | rw [b2i_0] at c_47 | rw [b2i_n0] at c_47 | skip
          refine z_iconst (v := 2) g dX11_part_50 (by decide) ?_
          refine z_goto (tgt := 70) g dX11_part_51 (by decide) ?_
          have hc : cPart S (nI j) w d = 2 := by simp [cPart, isF, hF, hcl, h10, eq_true c_10, eq_false c_40, c_47]
          refine z_callV g _ _ cv_X11_234 (n_holds _ M hM fr0 2) hM.k0 (by decide) rfl (by rw [hR]; decide) (by rw [hR]; decide) (by rw [hR]; decide) (Nat.le_of_ble_eq_true rfl) rfl dX11_part_70 (fun _ _ h => False.elim h) (fun r_70 M8 h_70 => ?_)
          obtain ⟨rfl, hM8, fr8⟩ := h_70
          refine z_if_eq (tgt := 126) g dX11_part_73 (by decide) (fun _ => ?_) (fun c_73 => absurd c_73 (by decide))
          exact z_vret g hrt (by decide) (by decide) dX11_part_126 ⟨rfl, by rw [hc, opS_2]; exact hM8, fr8⟩
    · refine z_aload_n g dX11_part_13 rfl ?_
      refine z_iload_n g dX11_part_14 rfl ?_
      refine z_callV g _ _ cv_X11_245 (n_isF _ M hM w) hM.k0 (by decide) rfl (by rw [hR]; decide) (by rw [hR]; decide) (by rw [hR]; decide) (Nat.le_of_ble_eq_true rfl) rfl dX11_part_15 (fun _ _ h => False.elim h) (fun r_15 M_15 h_15 => ?_)
      obtain ⟨rfl, rfl⟩ := h_15
      refine z_if_eq (tgt := 25) g dX11_part_18 (by decide) (fun c_18 => ?_) (fun c_18 => ?_)
      · first | rw [b2i_0] at c_18 | rw [b2i_n0] at c_18 | skip
        refine z_iconst (v := 0) g dX11_part_25 (by decide) ?_
        refine z_istore g dX11_part_26 (by rw [hN]; decide) ?_
        refine z_aload_n g dX11_part_28 rfl ?_
        refine z_iload g dX11_part_29 rfl ?_
        refine z_if_ne (tgt := 38) g dX11_part_31 (by decide) (fun c_31 => absurd c_31 (by decide)) (fun _ => ?_)
        refine z_iconst (v := 1) g dX11_part_34 (by decide) ?_
        refine z_goto (tgt := 70) g dX11_part_35 (by decide) ?_
        have hc : cPart S (nI j) w d = 1 := by simp [cPart, isF, hF, hcl, h10, eq_false c_10, c_18]
        refine z_callV g _ _ cv_X11_234 (n_holds _ M hM fr0 1) hM.k0 (by decide) rfl (by rw [hR]; decide) (by rw [hR]; decide) (by rw [hR]; decide) (Nat.le_of_ble_eq_true rfl) rfl dX11_part_70 (fun _ _ h => False.elim h) (fun r_70 M9 h_70 => ?_)
        obtain ⟨rfl, hM9, fr9⟩ := h_70
        refine z_if_eq (tgt := 126) g dX11_part_73 (by decide) (fun _ => ?_) (fun c_73 => absurd c_73 (by decide))
        exact z_vret g hrt (by decide) (by decide) dX11_part_126 ⟨rfl, by rw [hc, opS_1]; exact hM9, fr9⟩
      · first | rw [b2i_0] at c_18 | rw [b2i_n0] at c_18 | skip
        refine z_iconst (v := 1) g dX11_part_21 (by decide) ?_
        refine z_goto (tgt := 26) g dX11_part_22 (by decide) ?_
        refine z_istore g dX11_part_26 (by rw [hN]; decide) ?_
        refine z_aload_n g dX11_part_28 rfl ?_
        refine z_iload g dX11_part_29 rfl ?_
        refine z_if_ne (tgt := 38) g dX11_part_31 (by decide) (fun _ => ?_) (fun c_31 => absurd c_31 (by decide))
        refine z_iload_n g dX11_part_38 rfl ?_
        refine z_iload_n g dX11_part_39 rfl ?_
        refine z_icmp_ge (tgt := 50) g dX11_part_40 (by decide) (fun c_40 => ?_) (fun c_40 => ?_)
        · refine z_iconst (v := 2) g dX11_part_50 (by decide) ?_
          refine z_goto (tgt := 70) g dX11_part_51 (by decide) ?_
          have hc : cPart S (nI j) w d = 2 := by simp [cPart, isF, hF, hcl, h10, eq_false c_10, c_18, eq_true c_40]
          refine z_callV g _ _ cv_X11_234 (n_holds _ M hM fr0 2) hM.k0 (by decide) rfl (by rw [hR]; decide) (by rw [hR]; decide) (by rw [hR]; decide) (Nat.le_of_ble_eq_true rfl) rfl dX11_part_70 (fun _ _ h => False.elim h) (fun r_70 M10 h_70 => ?_)
          obtain ⟨rfl, hM10, fr10⟩ := h_70
          refine z_if_eq (tgt := 126) g dX11_part_73 (by decide) (fun _ => ?_) (fun c_73 => absurd c_73 (by decide))
          exact z_vret g hrt (by decide) (by decide) dX11_part_126 ⟨rfl, by rw [hc, opS_2]; exact hM10, fr10⟩
        · refine z_iload_n g dX11_part_43 rfl ?_
          refine z_callS g _ _ cs_X11_248 (n_isD _ M d) rfl (by rw [hR]; decide) (by rw [hR]; decide) (by rw [hR]; decide) (Nat.le_of_ble_eq_true rfl) rfl dX11_part_44 (fun _ _ h => False.elim h) (fun r_44 M_44 h_44 => ?_)
          obtain ⟨rfl, rfl⟩ := h_44
          refine z_if_ne (tgt := 54) g dX11_part_47 (by decide) (fun c_47 => ?_) (fun c_47 => ?_)
          · first | rw [b2i_0] at c_47 | rw [b2i_n0] at c_47 | skip
            refine z_aload_n g dX11_part_54 rfl ?_
            refine z_getR g fl_X11_31 hM.k0 (by decide) rfl (hM.ref (k := 10) (by decide)) dX11_part_55 ?_
            refine z_iload_n g dX11_part_58 rfl ?_
            refine z_ialdk g (hM.kA1 (k := 10) (by decide)) (by decide) (vp_in_nI (by rw [hM.lnI (k := 10) (by decide)]; show _ < 24; omega) (by rw [hM.lnI (k := 10) (by decide)]; decide)) dX11_part_59 ?_
            rw [nI_clamp (by omega), show fI _ (A 10) = gA S 10 from hM.row (k := 10) (by decide) (by decide)]
            rw [h10]
            refine z_bipush (v := 40) g dX11_part_60 (by decide) ?_
            refine z_icmp_ne (tgt := 69) g dX11_part_62 (by decide) (fun c_62 => ?_) (fun c_62 => ?_)
            · refine z_iconst (v := 0) g dX11_part_69 (by decide) ?_
              have hc : cPart S (nI j) w d = 0 := by simp [cPart, isF, hF, hcl, h10, eq_false c_10, c_18, eq_false c_40, c_47, eq_false c_62]
              refine z_callV g _ _ cv_X11_234 (n_holds _ M hM fr0 0) hM.k0 (by decide) rfl (by rw [hR]; decide) (by rw [hR]; decide) (by rw [hR]; decide) (Nat.le_of_ble_eq_true rfl) rfl dX11_part_70 (fun _ _ h => False.elim h) (fun r_70 M11 h_70 => ?_)
              obtain ⟨rfl, hM11, fr11⟩ := h_70
              have h10b : ca S 10 j < 40 := by have h9 : ¬ ca S 10 j = 40 := fun z => c_62 (by rw [z]; rfl); omega
              refine z_if_eq (tgt := 126) g dX11_part_73 (by decide) (fun c => absurd c (by decide)) (fun _ => ?_)
              refine z_bipush (v := 40) g dX11_part_76 (by decide) ?_
              refine z_iload_n g dX11_part_78 rfl ?_
              refine z_imul g dX11_part_79 ?_
              rw [m40]
              refine z_aload_n g dX11_part_80 rfl ?_
              refine z_getR g fl_X11_31 hM11.k0 (by decide) rfl (hM11.ref (k := 10) (by decide)) dX11_part_81 ?_
              refine z_iload_n g dX11_part_84 rfl ?_
              refine z_ialdk g (hM11.kA1 (k := 10) (by decide)) (by decide) (vp_in_nI (by rw [hM11.lnI (k := 10) (by decide)]; show _ < 24; omega) (by rw [hM11.lnI (k := 10) (by decide)]; decide)) dX11_part_85 ?_
              rw [nI_clamp (by omega), show fI _ (A 10) = gA S 10 from hM11.row (k := 10) (by decide) (by decide)]
              rw [h10]
              refine z_iadd g dX11_part_86 ?_
              rw [nI_add]
              refine z_istore g dX11_part_87 (by rw [hN]; decide) ?_
              refine z_aload_n g dX11_part_89 rfl ?_
              refine z_getR g fl_X11_34 hM11.k0 (by decide) rfl (hM11.ref (k := 11) (by decide)) dX11_part_90 ?_
              refine z_iload g dX11_part_93 rfl ?_
              refine z_iload_n g dX11_part_95 rfl ?_
              refine m_iast g hM11 fr11 11 (by decide) (by show _ < 960; omega) dX11_part_96 (fun M12 hM12 fr12 => ?_)
              refine z_aload_n g dX11_part_97 rfl ?_
              refine z_getR g fl_X11_37 hM12.k0 (by decide) rfl (hM12.ref (k := 12) (by decide)) dX11_part_98 ?_
              refine z_iload g dX11_part_101 rfl ?_
              refine z_iload_n g dX11_part_103 rfl ?_
              refine m_iast g hM12 fr12 12 (by decide) (by show _ < 960; omega) dX11_part_104 (fun M13 hM13 fr13 => ?_)
              refine z_aload_n g dX11_part_105 rfl ?_
              refine z_getR g fl_X11_40 hM13.k0 (by decide) rfl (hM13.ref (k := 13) (by decide)) dX11_part_106 ?_
              refine z_iload g dX11_part_109 rfl ?_
              refine z_aload_n g dX11_part_111 rfl ?_
              refine z_getI g fl_X11_238 hM13.k0 (by decide) rfl dX11_part_112 ?_
              rw [show fI _ m 1 = gi S 1 from hM13.sc (k := 1) (by decide) (by decide)]
              refine m_iast g hM13 fr13 13 (by decide) (by show _ < 960; omega) dX11_part_115 (fun M14 hM14 fr14 => ?_)
              refine z_aload_n g dX11_part_116 rfl ?_
              refine z_getR g fl_X11_31 hM14.k0 (by decide) rfl (hM14.ref (k := 10) (by decide)) dX11_part_117 ?_
              refine z_iload_n g dX11_part_120 rfl ?_
              refine z_dup2 g dX11_part_121 rfl rfl ?_
              refine z_ialdk g (hM14.kA1 (k := 10) (by decide)) (by decide) (vp_in_nI (by rw [hM14.lnI (k := 10) (by decide)]; show _ < 24; omega) (by rw [hM14.lnI (k := 10) (by decide)]; decide)) dX11_part_122 ?_
              rw [nI_clamp (by omega), show fI _ (A 10) = gA S 10 from hM14.row (k := 10) (by decide) (by decide)]
              refine z_iconst (v := 1) g dX11_part_123 (by decide) ?_
              refine z_iadd g dX11_part_124 ?_
              refine m_iast g hM14 fr14 10 (by decide) (by show _ < 24; omega) dX11_part_125 (fun M15 hM15 fr15 => ?_)
              exact z_vret g hrt (by decide) (by decide) dX11_part_126 ⟨rfl, by rw [hc, opS_0, sPart, hcl]; exact hM15, fr15⟩
            · refine z_iconst (v := 3) g dX11_part_65 (by decide) ?_
              refine z_goto (tgt := 70) g dX11_part_66 (by decide) ?_
              have hc : cPart S (nI j) w d = 3 := by simp [cPart, isF, hF, hcl, h10, eq_false c_10, c_18, eq_false c_40, c_47, eq_true c_62]
              refine z_callV g _ _ cv_X11_234 (n_holds _ M hM fr0 3) hM.k0 (by decide) rfl (by rw [hR]; decide) (by rw [hR]; decide) (by rw [hR]; decide) (Nat.le_of_ble_eq_true rfl) rfl dX11_part_70 (fun _ _ h => False.elim h) (fun r_70 M16 h_70 => ?_)
              obtain ⟨rfl, hM16, fr16⟩ := h_70
              refine z_if_eq (tgt := 126) g dX11_part_73 (by decide) (fun _ => ?_) (fun c_73 => absurd c_73 (by decide))
              exact z_vret g hrt (by decide) (by decide) dX11_part_126 ⟨rfl, by rw [hc, opS_3]; exact hM16, fr16⟩
          · first | rw [b2i_0] at c_47 | rw [b2i_n0] at c_47 | skip
            refine z_iconst (v := 2) g dX11_part_50 (by decide) ?_
            refine z_goto (tgt := 70) g dX11_part_51 (by decide) ?_
            have hc : cPart S (nI j) w d = 2 := by simp [cPart, isF, hF, hcl, h10, eq_false c_10, c_18, eq_false c_40, c_47]
            refine z_callV g _ _ cv_X11_234 (n_holds _ M hM fr0 2) hM.k0 (by decide) rfl (by rw [hR]; decide) (by rw [hR]; decide) (by rw [hR]; decide) (Nat.le_of_ble_eq_true rfl) rfl dX11_part_70 (fun _ _ h => False.elim h) (fun r_70 M17 h_70 => ?_)
            obtain ⟨rfl, hM17, fr17⟩ := h_70
            refine z_if_eq (tgt := 126) g dX11_part_73 (by decide) (fun _ => ?_) (fun c_73 => absurd c_73 (by decide))
            exact z_vret g hrt (by decide) (by decide) dX11_part_126 ⟨rfl, by rw [hc, opS_2]; exact hM17, fr17⟩
set_option maxHeartbeats 4000000 in
set_option maxRecDepth 100000 in
theorem m_end (E : Ev) {A : Nat → Nat} {m : Nat} {S : Ms} (M : Mm) (hM : RM A m S M) (hV : INV S) (f i d : Int32) : CT E yX11_end cX11_end 5 none 4 0 0 [.ref m, .int f, .int i, .int d] M (mAns A m (opS (cEnd S f i d) S (sEnd S f i d)) M none) noX := by
  refine CT.of rfl (Nat.le_of_ble_eq_true rfl) (fun X g hrt hno hE hN hR hI => ?_)
  subst hE
  obtain ⟨v1, v2, v17, v24, v31, v36, v51, v58, v59⟩ := hV.1
  obtain ⟨-, vF, vN, vM, vL, vX, vP, vQ, vT, vR, vS, vO⟩ := hV
  have fr0 := FM.rf (A := A) (m := m) (M := M)
  rcases inN (n := cn S 2) (by have := v2.2; omega) f with hF | ⟨j, hj, rfl, hF⟩
  · rw [← v2.1] at hF
    refine z_aload_n g dX11_end_0 rfl ?_
    refine z_iload_n g dX11_end_1 rfl ?_
    refine z_callV g _ _ cv_X11_245 (n_isF _ M hM f) hM.k0 (by decide) rfl (by rw [hR]; decide) (by rw [hR]; decide) (by rw [hR]; decide) (Nat.le_of_ble_eq_true rfl) rfl dX11_end_2 (fun _ _ h => False.elim h) (fun r_2 M_2 h_2 => ?_)
    obtain ⟨rfl, rfl⟩ := h_2
    rw [hF]
    refine z_if_eq (tgt := 25) g dX11_end_5 (by decide) (fun _ => ?_) (fun c_5 => absurd c_5 (by decide))
    refine z_iconst (v := 0) g dX11_end_25 (by decide) ?_
    refine z_istore g dX11_end_26 (by rw [hN]; decide) ?_
    refine z_aload_n g dX11_end_28 rfl ?_
    refine z_iload g dX11_end_29 rfl ?_
    refine z_if_ne (tgt := 38) g dX11_end_31 (by decide) (fun c_31 => absurd c_31 (by decide)) (fun _ => ?_)
    refine z_iconst (v := 1) g dX11_end_34 (by decide) ?_
    refine z_goto (tgt := 69) g dX11_end_35 (by decide) ?_
    have hc : cEnd S f i d = 1 := by simp [cEnd, isF, hF]
    refine z_callV g _ _ cv_X11_234 (n_holds _ M hM fr0 1) hM.k0 (by decide) rfl (by rw [hR]; decide) (by rw [hR]; decide) (by rw [hR]; decide) (Nat.le_of_ble_eq_true rfl) rfl dX11_end_69 (fun _ _ h => False.elim h) (fun r_69 M1 h_69 => ?_)
    obtain ⟨rfl, hM1, fr1⟩ := h_69
    refine z_if_eq (tgt := 99) g dX11_end_72 (by decide) (fun _ => ?_) (fun c_72 => absurd c_72 (by decide))
    exact z_vret g hrt (by decide) (by decide) dX11_end_99 ⟨rfl, by rw [hc, opS_1]; exact hM1, fr1⟩
  · rw [← v2.1] at hF
    have hj24 : j < 24 := by have := v2.2; omega
    refine z_aload_n g dX11_end_0 rfl ?_
    refine z_iload_n g dX11_end_1 rfl ?_
    refine z_callV g _ _ cv_X11_245 (n_isF _ M hM (nI j)) hM.k0 (by decide) rfl (by rw [hR]; decide) (by rw [hR]; decide) (by rw [hR]; decide) (Nat.le_of_ble_eq_true rfl) rfl dX11_end_2 (fun _ _ h => False.elim h) (fun r_2 M_2 h_2 => ?_)
    obtain ⟨rfl, rfl⟩ := h_2
    rw [hF]
    have hcl : (nI j).toNatClampNeg = j := nI_clamp (by omega)
    refine z_if_eq (tgt := 25) g dX11_end_5 (by decide) (fun c => absurd c (by decide)) (fun _ => ?_)
    refine z_iload_n g dX11_end_8 rfl ?_
    refine z_iconst (v := (-1)) g dX11_end_9 (by decide) ?_
    refine z_icmp_eq (tgt := 21) g dX11_end_10 (by decide) (fun c_10 => ?_) (fun c_10 => ?_)
    · refine z_iconst (v := 1) g dX11_end_21 (by decide) ?_
      refine z_goto (tgt := 26) g dX11_end_22 (by decide) ?_
      refine z_istore g dX11_end_26 (by rw [hN]; decide) ?_
      refine z_aload_n g dX11_end_28 rfl ?_
      refine z_iload g dX11_end_29 rfl ?_
      refine z_if_ne (tgt := 38) g dX11_end_31 (by decide) (fun _ => ?_) (fun c_31 => absurd c_31 (by decide))
      refine z_iload_n g dX11_end_38 rfl ?_
      refine z_iload_n g dX11_end_39 rfl ?_
      refine z_icmp_eq (tgt := 50) g dX11_end_40 (by decide) (fun c_40 => ?_) (fun c_40 => ?_)
      · refine z_iconst (v := 2) g dX11_end_50 (by decide) ?_
        refine z_goto (tgt := 69) g dX11_end_51 (by decide) ?_
        have hc : cEnd S (nI j) i d = 2 := by simp [cEnd, isF, hF, hcl, eq_true c_10, eq_true c_40]
        refine z_callV g _ _ cv_X11_234 (n_holds _ M hM fr0 2) hM.k0 (by decide) rfl (by rw [hR]; decide) (by rw [hR]; decide) (by rw [hR]; decide) (Nat.le_of_ble_eq_true rfl) rfl dX11_end_69 (fun _ _ h => False.elim h) (fun r_69 M1 h_69 => ?_)
        obtain ⟨rfl, hM1, fr1⟩ := h_69
        refine z_if_eq (tgt := 99) g dX11_end_72 (by decide) (fun _ => ?_) (fun c_72 => absurd c_72 (by decide))
        exact z_vret g hrt (by decide) (by decide) dX11_end_99 ⟨rfl, by rw [hc, opS_2]; exact hM1, fr1⟩
      · refine z_iload_n g dX11_end_43 rfl ?_
        refine z_callS g _ _ cs_X11_248 (n_isD _ M d) rfl (by rw [hR]; decide) (by rw [hR]; decide) (by rw [hR]; decide) (Nat.le_of_ble_eq_true rfl) rfl dX11_end_44 (fun _ _ h => False.elim h) (fun r_44 M_44 h_44 => ?_)
        obtain ⟨rfl, rfl⟩ := h_44
        refine z_if_ne (tgt := 54) g dX11_end_47 (by decide) (fun c_47 => ?_) (fun c_47 => ?_)
        · first | rw [b2i_0] at c_47 | rw [b2i_n0] at c_47 | skip
          refine z_aload_n g dX11_end_54 rfl ?_
          refine z_getR g fl_X11_43 hM.k0 (by decide) rfl (hM.ref (k := 14) (by decide)) dX11_end_55 ?_
          refine z_iload_n g dX11_end_58 rfl ?_
          refine z_ialdk g (hM.kA1 (k := 14) (by decide)) (by decide) (vp_in_nI (by rw [hM.lnI (k := 14) (by decide)]; show _ < 24; omega) (by rw [hM.lnI (k := 14) (by decide)]; decide)) dX11_end_59 ?_
          rw [nI_clamp (by omega), show fI _ (A 14) = gA S 14 from hM.row (k := 14) (by decide) (by decide)]
          refine z_iconst (v := (-1)) g dX11_end_60 (by decide) ?_
          refine z_icmp_eq (tgt := 68) g dX11_end_61 (by decide) (fun c_61 => ?_) (fun c_61 => ?_)
          · refine z_iconst (v := 0) g dX11_end_68 (by decide) ?_
            have hc : cEnd S (nI j) i d = 0 := by simp [cEnd, isF, hF, hcl, eq_true c_10, eq_false c_40, c_47, eq_true c_61]
            refine z_callV g _ _ cv_X11_234 (n_holds _ M hM fr0 0) hM.k0 (by decide) rfl (by rw [hR]; decide) (by rw [hR]; decide) (by rw [hR]; decide) (Nat.le_of_ble_eq_true rfl) rfl dX11_end_69 (fun _ _ h => False.elim h) (fun r_69 M2 h_69 => ?_)
            obtain ⟨rfl, hM2, fr2⟩ := h_69
            refine z_if_eq (tgt := 99) g dX11_end_72 (by decide) (fun c_72 => absurd c_72 (by decide)) (fun _ => ?_)
            refine z_aload_n g dX11_end_75 rfl ?_
            refine z_getR g fl_X11_43 hM2.k0 (by decide) rfl (hM2.ref (k := 14) (by decide)) dX11_end_76 ?_
            refine z_iload_n g dX11_end_79 rfl ?_
            refine z_iload_n g dX11_end_80 rfl ?_
            refine m_iast g hM2 fr2 14 (by decide) (by show _ < 24; omega) dX11_end_81 (fun M3 hM3 fr3 => ?_)
            refine z_aload_n g dX11_end_82 rfl ?_
            refine z_getR g fl_X11_46 hM3.k0 (by decide) rfl (hM3.ref (k := 15) (by decide)) dX11_end_83 ?_
            refine z_iload_n g dX11_end_86 rfl ?_
            refine z_iload_n g dX11_end_87 rfl ?_
            refine m_iast g hM3 fr3 15 (by decide) (by show _ < 24; omega) dX11_end_88 (fun M4 hM4 fr4 => ?_)
            refine z_aload_n g dX11_end_89 rfl ?_
            refine z_getR g fl_X11_49 hM4.k0 (by decide) rfl (hM4.ref (k := 16) (by decide)) dX11_end_90 ?_
            refine z_iload_n g dX11_end_93 rfl ?_
            refine z_aload_n g dX11_end_94 rfl ?_
            refine z_getI g fl_X11_238 hM4.k0 (by decide) rfl dX11_end_95 ?_
            rw [show fI _ m 1 = gi S 1 from hM4.sc (k := 1) (by decide) (by decide)]
            refine m_iast g hM4 fr4 16 (by decide) (by show _ < 24; omega) dX11_end_98 (fun M5 hM5 fr5 => ?_)
            exact z_vret g hrt (by decide) (by decide) dX11_end_99 ⟨rfl, by rw [hc, opS_0, sEnd, hcl]; exact hM5, fr5⟩
          · refine z_iconst (v := 3) g dX11_end_64 (by decide) ?_
            refine z_goto (tgt := 69) g dX11_end_65 (by decide) ?_
            have hc : cEnd S (nI j) i d = 3 := by simp [cEnd, isF, hF, hcl, eq_true c_10, eq_false c_40, c_47, eq_false c_61]
            refine z_callV g _ _ cv_X11_234 (n_holds _ M hM fr0 3) hM.k0 (by decide) rfl (by rw [hR]; decide) (by rw [hR]; decide) (by rw [hR]; decide) (Nat.le_of_ble_eq_true rfl) rfl dX11_end_69 (fun _ _ h => False.elim h) (fun r_69 M6 h_69 => ?_)
            obtain ⟨rfl, hM6, fr6⟩ := h_69
            refine z_if_eq (tgt := 99) g dX11_end_72 (by decide) (fun _ => ?_) (fun c_72 => absurd c_72 (by decide))
            exact z_vret g hrt (by decide) (by decide) dX11_end_99 ⟨rfl, by rw [hc, opS_3]; exact hM6, fr6⟩
        · first | rw [b2i_0] at c_47 | rw [b2i_n0] at c_47 | skip
          refine z_iconst (v := 2) g dX11_end_50 (by decide) ?_
          refine z_goto (tgt := 69) g dX11_end_51 (by decide) ?_
          have hc : cEnd S (nI j) i d = 2 := by simp [cEnd, isF, hF, hcl, eq_true c_10, eq_false c_40, c_47]
          refine z_callV g _ _ cv_X11_234 (n_holds _ M hM fr0 2) hM.k0 (by decide) rfl (by rw [hR]; decide) (by rw [hR]; decide) (by rw [hR]; decide) (Nat.le_of_ble_eq_true rfl) rfl dX11_end_69 (fun _ _ h => False.elim h) (fun r_69 M7 h_69 => ?_)
          obtain ⟨rfl, hM7, fr7⟩ := h_69
          refine z_if_eq (tgt := 99) g dX11_end_72 (by decide) (fun _ => ?_) (fun c_72 => absurd c_72 (by decide))
          exact z_vret g hrt (by decide) (by decide) dX11_end_99 ⟨rfl, by rw [hc, opS_2]; exact hM7, fr7⟩
    · refine z_aload_n g dX11_end_13 rfl ?_
      refine z_iload_n g dX11_end_14 rfl ?_
      refine z_callV g _ _ cv_X11_245 (n_isF _ M hM i) hM.k0 (by decide) rfl (by rw [hR]; decide) (by rw [hR]; decide) (by rw [hR]; decide) (Nat.le_of_ble_eq_true rfl) rfl dX11_end_15 (fun _ _ h => False.elim h) (fun r_15 M_15 h_15 => ?_)
      obtain ⟨rfl, rfl⟩ := h_15
      refine z_if_eq (tgt := 25) g dX11_end_18 (by decide) (fun c_18 => ?_) (fun c_18 => ?_)
      · first | rw [b2i_0] at c_18 | rw [b2i_n0] at c_18 | skip
        refine z_iconst (v := 0) g dX11_end_25 (by decide) ?_
        refine z_istore g dX11_end_26 (by rw [hN]; decide) ?_
        refine z_aload_n g dX11_end_28 rfl ?_
        refine z_iload g dX11_end_29 rfl ?_
        refine z_if_ne (tgt := 38) g dX11_end_31 (by decide) (fun c_31 => absurd c_31 (by decide)) (fun _ => ?_)
        refine z_iconst (v := 1) g dX11_end_34 (by decide) ?_
        refine z_goto (tgt := 69) g dX11_end_35 (by decide) ?_
        have hc : cEnd S (nI j) i d = 1 := by simp [cEnd, isF, hF, hcl, eq_false c_10, c_18]
        refine z_callV g _ _ cv_X11_234 (n_holds _ M hM fr0 1) hM.k0 (by decide) rfl (by rw [hR]; decide) (by rw [hR]; decide) (by rw [hR]; decide) (Nat.le_of_ble_eq_true rfl) rfl dX11_end_69 (fun _ _ h => False.elim h) (fun r_69 M8 h_69 => ?_)
        obtain ⟨rfl, hM8, fr8⟩ := h_69
        refine z_if_eq (tgt := 99) g dX11_end_72 (by decide) (fun _ => ?_) (fun c_72 => absurd c_72 (by decide))
        exact z_vret g hrt (by decide) (by decide) dX11_end_99 ⟨rfl, by rw [hc, opS_1]; exact hM8, fr8⟩
      · first | rw [b2i_0] at c_18 | rw [b2i_n0] at c_18 | skip
        refine z_iconst (v := 1) g dX11_end_21 (by decide) ?_
        refine z_goto (tgt := 26) g dX11_end_22 (by decide) ?_
        refine z_istore g dX11_end_26 (by rw [hN]; decide) ?_
        refine z_aload_n g dX11_end_28 rfl ?_
        refine z_iload g dX11_end_29 rfl ?_
        refine z_if_ne (tgt := 38) g dX11_end_31 (by decide) (fun _ => ?_) (fun c_31 => absurd c_31 (by decide))
        refine z_iload_n g dX11_end_38 rfl ?_
        refine z_iload_n g dX11_end_39 rfl ?_
        refine z_icmp_eq (tgt := 50) g dX11_end_40 (by decide) (fun c_40 => ?_) (fun c_40 => ?_)
        · refine z_iconst (v := 2) g dX11_end_50 (by decide) ?_
          refine z_goto (tgt := 69) g dX11_end_51 (by decide) ?_
          have hc : cEnd S (nI j) i d = 2 := by simp [cEnd, isF, hF, hcl, eq_false c_10, c_18, eq_true c_40]
          refine z_callV g _ _ cv_X11_234 (n_holds _ M hM fr0 2) hM.k0 (by decide) rfl (by rw [hR]; decide) (by rw [hR]; decide) (by rw [hR]; decide) (Nat.le_of_ble_eq_true rfl) rfl dX11_end_69 (fun _ _ h => False.elim h) (fun r_69 M9 h_69 => ?_)
          obtain ⟨rfl, hM9, fr9⟩ := h_69
          refine z_if_eq (tgt := 99) g dX11_end_72 (by decide) (fun _ => ?_) (fun c_72 => absurd c_72 (by decide))
          exact z_vret g hrt (by decide) (by decide) dX11_end_99 ⟨rfl, by rw [hc, opS_2]; exact hM9, fr9⟩
        · refine z_iload_n g dX11_end_43 rfl ?_
          refine z_callS g _ _ cs_X11_248 (n_isD _ M d) rfl (by rw [hR]; decide) (by rw [hR]; decide) (by rw [hR]; decide) (Nat.le_of_ble_eq_true rfl) rfl dX11_end_44 (fun _ _ h => False.elim h) (fun r_44 M_44 h_44 => ?_)
          obtain ⟨rfl, rfl⟩ := h_44
          refine z_if_ne (tgt := 54) g dX11_end_47 (by decide) (fun c_47 => ?_) (fun c_47 => ?_)
          · first | rw [b2i_0] at c_47 | rw [b2i_n0] at c_47 | skip
            refine z_aload_n g dX11_end_54 rfl ?_
            refine z_getR g fl_X11_43 hM.k0 (by decide) rfl (hM.ref (k := 14) (by decide)) dX11_end_55 ?_
            refine z_iload_n g dX11_end_58 rfl ?_
            refine z_ialdk g (hM.kA1 (k := 14) (by decide)) (by decide) (vp_in_nI (by rw [hM.lnI (k := 14) (by decide)]; show _ < 24; omega) (by rw [hM.lnI (k := 14) (by decide)]; decide)) dX11_end_59 ?_
            rw [nI_clamp (by omega), show fI _ (A 14) = gA S 14 from hM.row (k := 14) (by decide) (by decide)]
            refine z_iconst (v := (-1)) g dX11_end_60 (by decide) ?_
            refine z_icmp_eq (tgt := 68) g dX11_end_61 (by decide) (fun c_61 => ?_) (fun c_61 => ?_)
            · refine z_iconst (v := 0) g dX11_end_68 (by decide) ?_
              have hc : cEnd S (nI j) i d = 0 := by simp [cEnd, isF, hF, hcl, eq_false c_10, c_18, eq_false c_40, c_47, eq_true c_61]
              refine z_callV g _ _ cv_X11_234 (n_holds _ M hM fr0 0) hM.k0 (by decide) rfl (by rw [hR]; decide) (by rw [hR]; decide) (by rw [hR]; decide) (Nat.le_of_ble_eq_true rfl) rfl dX11_end_69 (fun _ _ h => False.elim h) (fun r_69 M10 h_69 => ?_)
              obtain ⟨rfl, hM10, fr10⟩ := h_69
              refine z_if_eq (tgt := 99) g dX11_end_72 (by decide) (fun c_72 => absurd c_72 (by decide)) (fun _ => ?_)
              refine z_aload_n g dX11_end_75 rfl ?_
              refine z_getR g fl_X11_43 hM10.k0 (by decide) rfl (hM10.ref (k := 14) (by decide)) dX11_end_76 ?_
              refine z_iload_n g dX11_end_79 rfl ?_
              refine z_iload_n g dX11_end_80 rfl ?_
              refine m_iast g hM10 fr10 14 (by decide) (by show _ < 24; omega) dX11_end_81 (fun M11 hM11 fr11 => ?_)
              refine z_aload_n g dX11_end_82 rfl ?_
              refine z_getR g fl_X11_46 hM11.k0 (by decide) rfl (hM11.ref (k := 15) (by decide)) dX11_end_83 ?_
              refine z_iload_n g dX11_end_86 rfl ?_
              refine z_iload_n g dX11_end_87 rfl ?_
              refine m_iast g hM11 fr11 15 (by decide) (by show _ < 24; omega) dX11_end_88 (fun M12 hM12 fr12 => ?_)
              refine z_aload_n g dX11_end_89 rfl ?_
              refine z_getR g fl_X11_49 hM12.k0 (by decide) rfl (hM12.ref (k := 16) (by decide)) dX11_end_90 ?_
              refine z_iload_n g dX11_end_93 rfl ?_
              refine z_aload_n g dX11_end_94 rfl ?_
              refine z_getI g fl_X11_238 hM12.k0 (by decide) rfl dX11_end_95 ?_
              rw [show fI _ m 1 = gi S 1 from hM12.sc (k := 1) (by decide) (by decide)]
              refine m_iast g hM12 fr12 16 (by decide) (by show _ < 24; omega) dX11_end_98 (fun M13 hM13 fr13 => ?_)
              exact z_vret g hrt (by decide) (by decide) dX11_end_99 ⟨rfl, by rw [hc, opS_0, sEnd, hcl]; exact hM13, fr13⟩
            · refine z_iconst (v := 3) g dX11_end_64 (by decide) ?_
              refine z_goto (tgt := 69) g dX11_end_65 (by decide) ?_
              have hc : cEnd S (nI j) i d = 3 := by simp [cEnd, isF, hF, hcl, eq_false c_10, c_18, eq_false c_40, c_47, eq_false c_61]
              refine z_callV g _ _ cv_X11_234 (n_holds _ M hM fr0 3) hM.k0 (by decide) rfl (by rw [hR]; decide) (by rw [hR]; decide) (by rw [hR]; decide) (Nat.le_of_ble_eq_true rfl) rfl dX11_end_69 (fun _ _ h => False.elim h) (fun r_69 M14 h_69 => ?_)
              obtain ⟨rfl, hM14, fr14⟩ := h_69
              refine z_if_eq (tgt := 99) g dX11_end_72 (by decide) (fun _ => ?_) (fun c_72 => absurd c_72 (by decide))
              exact z_vret g hrt (by decide) (by decide) dX11_end_99 ⟨rfl, by rw [hc, opS_3]; exact hM14, fr14⟩
          · first | rw [b2i_0] at c_47 | rw [b2i_n0] at c_47 | skip
            refine z_iconst (v := 2) g dX11_end_50 (by decide) ?_
            refine z_goto (tgt := 69) g dX11_end_51 (by decide) ?_
            have hc : cEnd S (nI j) i d = 2 := by simp [cEnd, isF, hF, hcl, eq_false c_10, c_18, eq_false c_40, c_47]
            refine z_callV g _ _ cv_X11_234 (n_holds _ M hM fr0 2) hM.k0 (by decide) rfl (by rw [hR]; decide) (by rw [hR]; decide) (by rw [hR]; decide) (Nat.le_of_ble_eq_true rfl) rfl dX11_end_69 (fun _ _ h => False.elim h) (fun r_69 M15 h_69 => ?_)
            obtain ⟨rfl, hM15, fr15⟩ := h_69
            refine z_if_eq (tgt := 99) g dX11_end_72 (by decide) (fun _ => ?_) (fun c_72 => absurd c_72 (by decide))
            exact z_vret g hrt (by decide) (by decide) dX11_end_99 ⟨rfl, by rw [hc, opS_2]; exact hM15, fr15⟩
