set_option maxHeartbeats 4000000 in
set_option maxRecDepth 100000 in
theorem k_petOf (E : Ev) {B : Nat → Nat → Nat} {x : Nat} {S : Ms} (M : Mm) (hX : RX B x S M) (hV : INV S) (f w : Int32) : CT E yX10_petitionOf cX10_petitionOf 4 (some .int) 10 16 500 [.ref x, .int f, .int w] M (fun r M' => cPetOf S f w = 0 ∧ r = (some (.int (vPetOf S f w))) ∧ agr TC M M' ∧ ∃ B', RX B' x (sPetOf S f w) M') (fun E9 M' => M = M' ∧ ((cPetOf S f w = 1 ∧ E9 = IOE) ∨ (cPetOf S f w = 2 ∧ E9 = IAE))) := by
  refine CT.of rfl (Nat.le_of_ble_eq_true rfl) (fun X g hrt hno hE hN hR hI => ?_)
  subst hE
  have hX0 := hX
  obtain ⟨qx, qs, qf, qd, qg, qh, qp, qw, qm, qe, ql, qq, qt, qr, qc, qo, qi⟩ := hX
  have k11 : kd M x % 1000 = 11 := by rw [qx.1]
  have r2 : fR M x 2 = some (B 402 0) := (qx.2.1 2 (by decide)).1
  have kl2 : kd M (B 402 0) = 402 := (qx.2.1 2 (by decide)).2
  have l2 : LK M (B 402 0) 8 := qq.LK kl2 hV
  have m2 := l2.1
  have n2 : ln M (B 402 0) = cn S 36 := qq.1
  have b2 := l2.2.1
  rw [n2] at b2
  refine z_aload_n g dX10_petitionOf_0 rfl ?_
  refine z_iload_n g dX10_petitionOf_1 rfl ?_
  refine z_callV g _ _ cv_X10_202 (k_petAt _ M hX0 hV f) (by assumption) (by decide) rfl (by rw [hR]; decide) (by rw [hR]; decide) (by rw [hR]; decide) (Nat.le_of_ble_eq_true rfl) rfl dX10_petitionOf_2 (fun E9 M9 h9 => by obtain ⟨h9, rfl, rfl⟩ := h9; have hF := (isP_ix hV f).trans h9; exact zx_out g hrt hno (by decide) (by decide) ⟨rfl, Or.inl ⟨by simp [cPetOf, inB_04, hF], rfl⟩⟩) (fun r_2 M_2 h_2 => ?_)
  obtain ⟨j, hj, rfl, rfl, rfl⟩ := h_2
  have hF : isP S (nI j) = true := isP_j hV hj
  have hcl : (nI j).toNatClampNeg = j := nI_clamp (by omega)
  obtain ⟨-, k8a, z0, z1, z2, z3, z4, z5, z6, z7, z8, z9⟩ := qq.2 j hj
  have k8 : kd M (elt M (B 402 0) j) % 1000 = 8 := by rw [k8a]; omega
  refine z_astore_n g dX10_petitionOf_5 (by rw [hN]; decide) ?_
  refine z_iload_n g dX10_petitionOf_6 rfl ?_
  refine z_if_lt (tgt := 19) g dX10_petitionOf_7 (by decide) (fun c_7 => ?_) (fun c_7 => ?_)
  · refine z_iconst (v := 0) g dX10_petitionOf_19 (by decide) ?_
    exact z_callS g _ _ cs_X10_63 (c_needArg _ M false) rfl (by rw [hR]; decide) (by rw [hR]; decide) (by rw [hR]; decide) (Nat.le_of_ble_eq_true rfl) rfl dX10_petitionOf_20 (fun E9 M9 h9 => by obtain ⟨-, rfl, rfl⟩ := h9; exact zx_out g hrt hno (by decide) (by decide) ⟨rfl, Or.inr (⟨by simp [cPetOf, inB_04, hF, hcl, eq_true c_7], rfl⟩)⟩) (fun _ _ h => by cases h.1)
  · refine z_iload_n g dX10_petitionOf_10 rfl ?_
    refine z_iconst (v := 4) g dX10_petitionOf_11 (by decide) ?_
    refine z_icmp_gt (tgt := 19) g dX10_petitionOf_12 (by decide) (fun c_12 => ?_) (fun c_12 => ?_)
    · refine z_iconst (v := 0) g dX10_petitionOf_19 (by decide) ?_
      exact z_callS g _ _ cs_X10_63 (c_needArg _ M false) rfl (by rw [hR]; decide) (by rw [hR]; decide) (by rw [hR]; decide) (Nat.le_of_ble_eq_true rfl) rfl dX10_petitionOf_20 (fun E9 M9 h9 => by obtain ⟨-, rfl, rfl⟩ := h9; exact zx_out g hrt hno (by decide) (by decide) ⟨rfl, Or.inr (⟨by simp [cPetOf, inB_04, hF, hcl, eq_false c_7, eq_true c_12], rfl⟩)⟩) (fun _ _ h => by cases h.1)
    · refine z_iconst (v := 1) g dX10_petitionOf_15 (by decide) ?_
      refine z_goto (tgt := 20) g dX10_petitionOf_16 (by decide) ?_
      refine z_callS g _ _ cs_X10_63 (c_needArg _ M true) rfl (by rw [hR]; decide) (by rw [hR]; decide) (by rw [hR]; decide) (Nat.le_of_ble_eq_true rfl) rfl dX10_petitionOf_20 (fun _ _ h => by cases h.1) (fun r_20 M_20 h_20 => ?_)
      obtain ⟨-, rfl, rfl⟩ := h_20
      refine z_iload_n g dX10_petitionOf_23 rfl ?_
      obtain ⟨kk, hk4, rfl⟩ := in_04 c_7 c_12
      have hw : inB (nI kk) 0 4 = true := by unfold inB; rw [decide_eq_false c_7, decide_eq_false c_12]; rfl
      obtain ⟨-, -, -, -, -, ⟨p1, -⟩, ⟨p2, p2b⟩, ⟨p3, p3b⟩, ⟨p4, p4b⟩, -⟩ := hV.2.2.2.2.2.2.1 j hj
      rcases (show kk = 0 ∨ kk = 1 ∨ kk = 2 ∨ kk = 3 ∨ kk = 4 by omega) with rfl | rfl | rfl | rfl | rfl
      · refine z_tabIn (off := 32) (tgt := 56) g dX10_petitionOf_24 (by decide) (by decide) (by decide) (by decide) ?_
        refine z_aload_n g dX10_petitionOf_56 rfl ?_
        refine z_getI g fl_X10_209 (by assumption) (by decide) rfl dX10_petitionOf_57 ?_
        rw [z4]
        exact z_iret g hrt rfl (by decide) (by decide) dX10_petitionOf_60 ⟨by rw [show cPetOf S (nI j) (nI 0) = if (!isP S (nI j)) = true then 1 else if inB (nI 0) 0 4 = true then 0 else 2 from rfl, hF, hw]; rfl, by rw [vPt_0, hcl], agr.rf, B, RX_wi0 0 hX0⟩
      · refine z_tabIn (off := 37) (tgt := 61) g dX10_petitionOf_24 (by decide) (by decide) (by decide) (by decide) ?_
        refine z_aload_n g dX10_petitionOf_61 rfl ?_
        refine z_getI g fl_X10_215 (by assumption) (by decide) rfl dX10_petitionOf_62 ?_
        rw [z5, p2]
        refine z_callS g _ _ cs_X10_260 (c_bitc _ M (ca S 42 j) (by omega)) rfl (by rw [hR]; decide) (by rw [hR]; decide) (by rw [hR]; decide) (Nat.le_of_ble_eq_true rfl) rfl dX10_petitionOf_65 (fun _ _ h => False.elim h) (fun r_65 M_65 h_65 => ?_)
        obtain ⟨rfl, rfl⟩ := h_65
        exact z_iret g hrt rfl (by decide) (by decide) dX10_petitionOf_68 ⟨by rw [show cPetOf S (nI j) (nI 1) = if (!isP S (nI j)) = true then 1 else if inB (nI 1) 0 4 = true then 0 else 2 from rfl, hF, hw]; rfl, by rw [vPt_1, hcl], agr.rf, B, RX_wi0 0 hX0⟩
      · refine z_tabIn (off := 45) (tgt := 69) g dX10_petitionOf_24 (by decide) (by decide) (by decide) (by decide) ?_
        refine z_aload_n g dX10_petitionOf_69 rfl ?_
        refine z_getI g fl_X10_218 (by assumption) (by decide) rfl dX10_petitionOf_70 ?_
        rw [z6, p3]
        refine z_callS g _ _ cs_X10_260 (c_bitc _ M (ca S 43 j) (by omega)) rfl (by rw [hR]; decide) (by rw [hR]; decide) (by rw [hR]; decide) (Nat.le_of_ble_eq_true rfl) rfl dX10_petitionOf_73 (fun _ _ h => False.elim h) (fun r_73 M_73 h_73 => ?_)
        obtain ⟨rfl, rfl⟩ := h_73
        exact z_iret g hrt rfl (by decide) (by decide) dX10_petitionOf_76 ⟨by rw [show cPetOf S (nI j) (nI 2) = if (!isP S (nI j)) = true then 1 else if inB (nI 2) 0 4 = true then 0 else 2 from rfl, hF, hw]; rfl, by rw [vPt_2, hcl], agr.rf, B, RX_wi0 0 hX0⟩
      · refine z_tabIn (off := 53) (tgt := 77) g dX10_petitionOf_24 (by decide) (by decide) (by decide) (by decide) ?_
        refine z_aload_n g dX10_petitionOf_77 rfl ?_
        refine z_getI g fl_X10_224 (by assumption) (by decide) rfl dX10_petitionOf_78 ?_
        rw [z7, p4]
        refine z_callS g _ _ cs_X10_260 (c_bitc _ M (ca S 44 j) (by omega)) rfl (by rw [hR]; decide) (by rw [hR]; decide) (by rw [hR]; decide) (Nat.le_of_ble_eq_true rfl) rfl dX10_petitionOf_81 (fun _ _ h => False.elim h) (fun r_81 M_81 h_81 => ?_)
        obtain ⟨rfl, rfl⟩ := h_81
        exact z_iret g hrt rfl (by decide) (by decide) dX10_petitionOf_84 ⟨by rw [show cPetOf S (nI j) (nI 3) = if (!isP S (nI j)) = true then 1 else if inB (nI 3) 0 4 = true then 0 else 2 from rfl, hF, hw]; rfl, by rw [vPt_3, hcl], agr.rf, B, RX_wi0 0 hX0⟩
      · refine z_tabOut (tgt := 85) g dX10_petitionOf_24 (Or.inr (by decide)) (by decide) ?_
        refine z_aload_n g dX10_petitionOf_85 rfl ?_
        refine z_getI g fl_X10_230 (by assumption) (by decide) rfl dX10_petitionOf_86 ?_
        rw [z8]
        exact z_iret g hrt rfl (by decide) (by decide) dX10_petitionOf_89 ⟨by rw [show cPetOf S (nI j) (nI 4) = if (!isP S (nI j)) = true then 1 else if inB (nI 4) 0 4 = true then 0 else 2 from rfl, hF, hw]; rfl, by rw [vPt_4, hcl], agr.rf, B, RX_wi0 0 hX0⟩
theorem setB_congr {g h : Nat → Int32} : ∀ {n}, (∀ i, i ≤ n → g i = h i) → setB g n = setB h n
  | 0, _ => rfl
  | n + 1, e => by rw [setB, setB, setB_congr (fun i hi => e i (by omega)), e (n + 1) (Nat.le_refl _)]
theorem cntB_congr {g h : Nat → Int32} {v : Int32} : ∀ {n}, (∀ i, i ≤ n → g i = h i) → cntB g v n = cntB h v n
  | 0, _ => rfl
  | n + 1, e => by rw [cntB, cntB, cntB_congr (fun i hi => e i (by omega)), e (n + 1) (Nat.le_refl _)]
theorem lasB_congr {g h : Nat → Int32} {v : Int32} : ∀ {n}, (∀ i, i ≤ n → g i = h i) → lasB g v n = lasB h v n
  | 0, _ => rfl
  | n + 1, e => by rw [lasB, lasB, lasB_congr (fun i hi => e i (by omega)), e (n + 1) (Nat.le_refl _)]
set_option maxHeartbeats 4000000 in
set_option maxRecDepth 100000 in
theorem k_loss (E : Ev) {B : Nat → Nat → Nat} {x : Nat} {S : Ms} (M : Mm) (hX : RX B x S M) (hV : INV S) (f : Int32) : CT E yX10_loss cX10_loss 2 (some .int) 10 16 500 [.ref x, .int f] M (fun r M' => cLoss S f = 0 ∧ r = (some (.int (vLoss S f))) ∧ agr TC M M' ∧ ∃ B', RX B' x (sLoss S f) M') (fun E9 M' => M = M' ∧ ((cLoss S f = 1 ∧ E9 = IOE))) := by
  refine CT.of rfl (Nat.le_of_ble_eq_true rfl) (fun X g hrt hno hE hN hR hI => ?_)
  subst hE
  have hX0 := hX
  obtain ⟨qx, qs, qf, qd, qg, qh, qp, qw, qm, qe, ql, qq, qt, qr, qc, qo, qi⟩ := hX
  have k11 : kd M x % 1000 = 11 := by rw [qx.1]
  have r3 : fR M x 3 = some (B 403 0) := (qx.2.1 3 (by decide)).1
  have kl3 : kd M (B 403 0) = 403 := (qx.2.1 3 (by decide)).2
  have l3 : LK M (B 403 0) 10 := qt.LK kl3
  have m3 := l3.1
  have n3 : ln M (B 403 0) = 4 := qt.1
  have b3 := l3.2.1
  rw [n3] at b3
  refine z_bipush (v := 26) g dX10_loss_0 (by decide) ?_
  refine z_aload_n g dX10_loss_2 rfl ?_
  refine z_iload_n g dX10_loss_3 rfl ?_
  refine z_callV g _ _ cv_X10_281 (k_tabAt _ M hX0 hV f) (by assumption) (by decide) rfl (by rw [hR]; decide) (by rw [hR]; decide) (by rw [hR]; decide) (Nat.le_of_ble_eq_true rfl) rfl dX10_loss_4 (fun E9 M9 h9 => by obtain ⟨h9, rfl, rfl⟩ := h9; rw [show nI 4 = (4 : Int32) from rfl, tg_e] at h9; exact zx_out g hrt hno (by decide) (by decide) ⟨rfl, ⟨by simp [cLoss, h9], rfl⟩⟩) (fun r_4 M_4 h_4 => ?_)
  obtain ⟨j, hj, rfl, rfl, rfl⟩ := h_4
  have hF : inB (nI j) 0 3 = true := in4_j hj
  have hcl : (nI j).toNatClampNeg = j := nI_clamp (by omega)
  obtain ⟨-, k10a, t0, k171a, t27, tv⟩ := qt.2 j hj
  have k10 : kd M (B 10 j) % 1000 = 10 := by rw [k10a]; omega
  have k171 : kd M (B 171 j) % 1000 = 171 := by rw [k171a]; omega
  have hse : setB (fI M (B 171 j)) 26 = setB (tabG S j) 26 := setB_congr (fun i hi => tv i (by omega))
  obtain ⟨s0, hs27, hs26⟩ := setB_nat (g := fI M (B 171 j)) (n := 26) (fun l a b => by have h9 := tabLet hV.2.2.2.2.2.2.2.2.1 hj ⟨a, b⟩; exact ⟨_, h9.2.2, (tv l (by omega)).trans h9.1⟩)
  refine z_callV g _ _ cv_X10_302 (c_cDif _ M (B 10 j) (B 171 j) k10 t0 k171 t27 hs26 hs27) (by assumption) (by decide) rfl (by rw [hR]; decide) (by rw [hR]; decide) (by rw [hR]; decide) (Nat.le_of_ble_eq_true rfl) rfl dX10_loss_7 (fun _ _ h => False.elim h) (fun r_7 M_7 h_7 => ?_)
  obtain ⟨rfl, rfl⟩ := h_7
  refine z_isub g dX10_loss_10 ?_
  exact z_iret g hrt rfl (by decide) (by decide) dX10_loss_11 ⟨by simp [cLoss, hF, hcl], by unfold vLoss; rw [hcl, ← hse, hs26, nI_clamp (by omega)], agr.rf, B, RX_wi0 0 hX0⟩
set_option maxHeartbeats 4000000 in
set_option maxRecDepth 100000 in
theorem k_write (E : Ev) {B : Nat → Nat → Nat} {x : Nat} {S : Ms} (M : Mm) (hX : RX B x S M) (hV : INV S) (w : Int64) (t : Int32) : CT E yX10_write cX10_write 10 (some .long) 10 16 500 [.ref x, .long w, .int t] M (fun r M' => cWrite S w t = 0 ∧ r = (some (.long (vWrite S w t))) ∧ agr TC M M' ∧ ∃ B', RX B' x (sWrite S w t) M') (fun E9 M' => M = M' ∧ ((cWrite S w t = 1 ∧ E9 = IOE) ∨ (cWrite S w t = 2 ∧ E9 = IAE))) := by
  refine CT.of rfl (Nat.le_of_ble_eq_true rfl) (fun X g hrt hno hE hN hR hI => ?_)
  subst hE
  have hX0 := hX
  obtain ⟨qx, qs, qf, qd, qg, qh, qp, qw, qm, qe, ql, qq, qt, qr, qc, qo, qi⟩ := hX
  have k11 : kd M x % 1000 = 11 := by rw [qx.1]
  have r3 : fR M x 3 = some (B 403 0) := (qx.2.1 3 (by decide)).1
  have kl3 : kd M (B 403 0) = 403 := (qx.2.1 3 (by decide)).2
  have l3 : LK M (B 403 0) 10 := qt.LK kl3
  have m3 := l3.1
  have n3 : ln M (B 403 0) = 4 := qt.1
  have b3 := l3.2.1
  rw [n3] at b3
  refine z_aload_n g dX10_write_0 rfl ?_
  refine z_iload_n g dX10_write_1 rfl ?_
  refine z_callV g _ _ cv_X10_281 (k_tabAt _ M hX0 hV t) (by assumption) (by decide) rfl (by rw [hR]; decide) (by rw [hR]; decide) (by rw [hR]; decide) (Nat.le_of_ble_eq_true rfl) rfl dX10_write_2 (fun E9 M9 h9 => by obtain ⟨h9, rfl, rfl⟩ := h9; rw [show nI 4 = (4 : Int32) from rfl, tg_e] at h9; exact zx_out g hrt hno (by decide) (by decide) ⟨rfl, Or.inl ⟨by simp [cWrite, h9], rfl⟩⟩) (fun r_2 M_2 h_2 => ?_)
  obtain ⟨j, hj, rfl, rfl, rfl⟩ := h_2
  have hF : inB (nI j) 0 3 = true := in4_j hj
  have hcl : (nI j).toNatClampNeg = j := nI_clamp (by omega)
  obtain ⟨-, k10a, t0, k171a, t27, tv⟩ := qt.2 j hj
  have k10 : kd M (B 10 j) % 1000 = 10 := by rw [k10a]; omega
  have k171 : kd M (B 171 j) % 1000 = 171 := by rw [k171a]; omega
  refine z_astore g dX10_write_5 (by rw [hN]; decide) ?_
  refine z_lload_n g dX10_write_7 rfl ?_
  refine z_bipush (v := 12) g dX10_write_8 (by decide) ?_
  refine z_callS g _ _ cs_X10_147 (c_isWd _ M w 12 (by decide)) rfl (by rw [hR]; decide) (by rw [hR]; decide) (by rw [hR]; decide) (Nat.le_of_ble_eq_true rfl) rfl dX10_write_10 (fun _ _ h => False.elim h) (fun r_10 M_10 h_10 => ?_)
  obtain ⟨rfl, rfl⟩ := h_10
  refine z_callS g _ _ cs_X10_63 (c_needArg _ M (isWd 12 w)) rfl (by rw [hR]; decide) (by rw [hR]; decide) (by rw [hR]; decide) (Nat.le_of_ble_eq_true rfl) rfl dX10_write_13 (fun E9 M9 h9 => by obtain ⟨h9, rfl, rfl⟩ := h9; exact zx_out g hrt hno (by decide) (by decide) ⟨rfl, Or.inr (⟨by simp [cWrite, hF, hcl, h9], rfl⟩)⟩) (fun r_13 M_13 h_13 => ?_)
  obtain ⟨hb_13, rfl, rfl⟩ := h_13
  obtain ⟨r, hr, -, rfl⟩ := isWd_of (n := 12) (w := w) hb_13
  have hwr : wr (lN (lv r)) = r := wr_lN hr
  have hc0 : cWrite S (lN (lv r)) (nI j) = 0 := by simp [cWrite, hF, hcl, hb_13]
  have loop : ∀ (k i : Nat) (s t : List Nat) (hk : k = s.length) (hj2 : i ≤ 12) (hs : LW (12 - i) s) (hf : s.reverse.map (fun q => ca S 50 (27 * j + q)) ++ t = r.map (fun q => ca S 50 (27 * j + q))), Z X M 2 12 28 [(0, .ref x), (4, .ref (B 10 j)), (5, .long (lN (lv s))), (7, .long (lN (lv t))), (9, .int (nI i))] [] := by
    intro k
    induction k using Nat.strongRecOn with
    | _ k ih =>
      intro i s t hk hj2 hs hf
      refine z_iload g dX10_write_28 rfl ?_
      refine z_bipush (v := 12) g dX10_write_30 (by decide) ?_
      refine z_icmp_ge (tgt := 78) g dX10_write_32 (by decide) (fun c_32 => ?_) (fun c_32 => ?_)
      · have h8 : s = [] := by
          first
            | (rw [show (12 : Int32) = nI 12 from rfl, nI_leI (by omega) (by omega)] at c_32
               exact List.length_eq_zero_iff.mp (by have := hs.1; omega))
            | exact (lv_z hs).mp ((c0_le (LW.lt63 (n := 12) ⟨by have := hs.1; omega, hs.2⟩ (Nat.le_refl _))).mp c_39)
        have ht : t = r.map (fun q => ca S 50 (27 * j + q)) := by rw [← hf, h8]; rfl
        refine z_lload g dX10_write_78 rfl ?_
        exact z_lret g hrt (by decide) (by decide) dX10_write_80 ⟨hc0, by unfold vWrite; rw [hcl, hwr, ht], agr.rf, B, RX_wi0 0 hX0⟩
      · refine z_lload g dX10_write_35 rfl ?_
        refine z_lconst (v := 0) g dX10_write_37 (by decide) ?_
        refine z_lcmp g dX10_write_38 ?_
        refine z_if_le (tgt := 78) g dX10_write_39 (by decide) (fun c_39 => ?_) (fun c_39 => ?_)
        · have h8 : s = [] := by
            first
              | (rw [show (12 : Int32) = nI 12 from rfl, nI_leI (by omega) (by omega)] at c_32
                 exact List.length_eq_zero_iff.mp (by have := hs.1; omega))
              | exact (lv_z hs).mp ((c0_le (LW.lt63 (n := 12) ⟨by have := hs.1; omega, hs.2⟩ (Nat.le_refl _))).mp c_39)
          have ht : t = r.map (fun q => ca S 50 (27 * j + q)) := by rw [← hf, h8]; rfl
          refine z_lload g dX10_write_78 rfl ?_
          exact z_lret g hrt (by decide) (by decide) dX10_write_80 ⟨hc0, by unfold vWrite; rw [hcl, hwr, ht], agr.rf, B, RX_wi0 0 hX0⟩
        · obtain ⟨a, s, rfl⟩ : ∃ a s', s = a :: s' := by
            cases s with
            | nil => exact absurd ((c0_le (m := lv []) (by decide)).mpr rfl) c_39
            | cons a s => exact ⟨a, s, rfl⟩
          have ha := hs.2 a List.mem_cons_self
          have hls : lv (a :: s) < 2 ^ 63 := LW.lt63 (n := 12) ⟨by have := hs.1; omega, hs.2⟩ (Nat.le_refl _)
          have hl := hs.1
          simp only [List.length_cons] at hl hk
          refine z_lload g dX10_write_42 rfl ?_
          refine z_ldc2 g dX10_write_44 kc_X10_295 ?_
          refine z_lmul g dX10_write_47 ?_
          refine z_aload g dX10_write_48 rfl ?_
          refine z_lload g dX10_write_50 rfl ?_
          refine z_ldc2 g dX10_write_52 kc_X10_295 ?_
          refine z_lrem g dX10_write_55 (by decide) ?_
          rw [rem27 hls, lv_mod ha.2]
          refine z_l2i g dX10_write_56 ?_
          rw [l2i_n]
          refine z_callV g _ _ cv_X10_285 (c_letF _ M (B 10 j) (B 171 j) a k10 t0 k171 t27 (by omega)) (by assumption) (by decide) rfl (by rw [hR]; decide) (by rw [hR]; decide) (by rw [hR]; decide) (Nat.le_of_ble_eq_true rfl) rfl dX10_write_57 (fun _ _ h => False.elim h) (fun r_57 M_57 h_57 => ?_)
          obtain ⟨rfl, rfl⟩ := h_57
          have hlt := tabLet hV.2.2.2.2.2.2.2.2.1 hj ha
          rw [tv a (by omega), hlt.1]
          refine z_i2l g dX10_write_60 ?_
          rw [i2l_n (by omega)]
          refine z_ladd g dX10_write_61 ?_
          rw [mul27, lN_add, show 27 * lv t + ca S 50 (27 * j + a) = lv (ca S 50 (27 * j + a) :: t) from Nat.add_comm _ _]
          refine z_lstore g dX10_write_62 (by rw [hN]; decide) ?_
          refine z_lload g dX10_write_64 rfl ?_
          refine z_ldc2 g dX10_write_66 kc_X10_295 ?_
          refine z_ldiv g dX10_write_69 (by decide) ?_
          rw [div27 hls, lv_div ha.2]
          refine z_lstore g dX10_write_70 (by rw [hN]; decide) ?_
          refine z_iinc1 g dX10_write_72 rfl (by rw [hN]; decide) ?_
          refine z_goto (tgt := 28) g dX10_write_75 (by decide) ?_
          rw [nI_s]
          refine z_to (ih s.length (by omega) (i + 1) s (ca S 50 (27 * j + a) :: t) rfl (by omega) ⟨by omega, fun y hy => hs.2 y (List.mem_cons_of_mem _ hy)⟩ (by rw [← hf, List.reverse_cons, List.map_append, List.append_assoc]; rfl)) ⟨rfl, rfl, rfl, rfl, rfl, trivial⟩
  refine z_lload_n g dX10_write_16 rfl ?_
  refine z_callS g _ _ cs_X10_291 (c_turned _ M r hr) rfl (by rw [hR]; decide) (by rw [hR]; decide) (by rw [hR]; decide) (Nat.le_of_ble_eq_true rfl) rfl dX10_write_17 (fun _ _ h => False.elim h) (fun r_17 M_17 h_17 => ?_)
  obtain ⟨rfl, rfl⟩ := h_17
  refine z_lstore g dX10_write_20 (by rw [hN]; decide) ?_
  refine z_lconst (v := 0) g dX10_write_22 (by decide) ?_
  refine z_lstore g dX10_write_23 (by rw [hN]; decide) ?_
  refine z_iconst (v := 0) g dX10_write_25 (by decide) ?_
  refine z_istore g dX10_write_26 (by rw [hN]; decide) ?_
  exact z_to (loop r.length 0 r.reverse [] (by rw [List.length_reverse]) (by decide) hr.rev (by rw [List.reverse_reverse, List.append_nil])) ⟨rfl, rfl, rfl, rfl, rfl, trivial⟩
theorem oLT_rbk {S : Ms} {t a : Nat} {g : Nat → Int32} (hg : ∀ i, i ≤ 26 → g i = tabG S t i) : (oLT g (nI a) 26 = -1 ∧ rbk S t a = 0) ∨ (oLT g (nI a) 26 = nI (rbk S t a) ∧ 0 < rbk S t a) := by
  unfold oLT rbk
  rw [cntB_congr hg, lasB_congr hg]
  by_cases c : cntB (tabG S t) (nI a) 26 = 1
  · rw [if_pos c, if_pos c]
    exact Or.inr ⟨rfl, lasB_pos (by rw [c]; decide)⟩
  · rw [if_neg c, if_neg c]
    exact Or.inl ⟨rfl, rfl⟩
set_option maxHeartbeats 4000000 in
set_option maxRecDepth 100000 in
theorem k_back (E : Ev) {B : Nat → Nat → Nat} {x : Nat} {S : Ms} (M : Mm) (hX : RX B x S M) (hV : INV S) (w : Int64) (t : Int32) : CT E yX10_back cX10_back 11 (some .long) 10 16 500 [.ref x, .long w, .int t] M (fun r M' => cWrite S w t = 0 ∧ r = (some (.long (vBack S w t))) ∧ agr TC M M' ∧ ∃ B', RX B' x (sWrite S w t) M') (fun E9 M' => M = M' ∧ ((cWrite S w t = 1 ∧ E9 = IOE) ∨ (cWrite S w t = 2 ∧ E9 = IAE))) := by
  refine CT.of rfl (Nat.le_of_ble_eq_true rfl) (fun X g hrt hno hE hN hR hI => ?_)
  subst hE
  have hX0 := hX
  obtain ⟨qx, qs, qf, qd, qg, qh, qp, qw, qm, qe, ql, qq, qt, qr, qc, qo, qi⟩ := hX
  have k11 : kd M x % 1000 = 11 := by rw [qx.1]
  have r3 : fR M x 3 = some (B 403 0) := (qx.2.1 3 (by decide)).1
  have kl3 : kd M (B 403 0) = 403 := (qx.2.1 3 (by decide)).2
  have l3 : LK M (B 403 0) 10 := qt.LK kl3
  have m3 := l3.1
  have n3 : ln M (B 403 0) = 4 := qt.1
  have b3 := l3.2.1
  rw [n3] at b3
  refine z_aload_n g dX10_back_0 rfl ?_
  refine z_iload_n g dX10_back_1 rfl ?_
  refine z_callV g _ _ cv_X10_281 (k_tabAt _ M hX0 hV t) (by assumption) (by decide) rfl (by rw [hR]; decide) (by rw [hR]; decide) (by rw [hR]; decide) (Nat.le_of_ble_eq_true rfl) rfl dX10_back_2 (fun E9 M9 h9 => by obtain ⟨h9, rfl, rfl⟩ := h9; rw [show nI 4 = (4 : Int32) from rfl, tg_e] at h9; exact zx_out g hrt hno (by decide) (by decide) ⟨rfl, Or.inl ⟨by simp [cWrite, h9], rfl⟩⟩) (fun r_2 M_2 h_2 => ?_)
  obtain ⟨j, hj, rfl, rfl, rfl⟩ := h_2
  have hF : inB (nI j) 0 3 = true := in4_j hj
  have hcl : (nI j).toNatClampNeg = j := nI_clamp (by omega)
  obtain ⟨-, k10a, t0, k171a, t27, tv⟩ := qt.2 j hj
  have k10 : kd M (B 10 j) % 1000 = 10 := by rw [k10a]; omega
  have k171 : kd M (B 171 j) % 1000 = 171 := by rw [k171a]; omega
  refine z_astore g dX10_back_5 (by rw [hN]; decide) ?_
  refine z_lload_n g dX10_back_7 rfl ?_
  refine z_bipush (v := 12) g dX10_back_8 (by decide) ?_
  refine z_callS g _ _ cs_X10_147 (c_isWd _ M w 12 (by decide)) rfl (by rw [hR]; decide) (by rw [hR]; decide) (by rw [hR]; decide) (Nat.le_of_ble_eq_true rfl) rfl dX10_back_10 (fun _ _ h => False.elim h) (fun r_10 M_10 h_10 => ?_)
  obtain ⟨rfl, rfl⟩ := h_10
  refine z_callS g _ _ cs_X10_63 (c_needArg _ M (isWd 12 w)) rfl (by rw [hR]; decide) (by rw [hR]; decide) (by rw [hR]; decide) (Nat.le_of_ble_eq_true rfl) rfl dX10_back_13 (fun E9 M9 h9 => by obtain ⟨h9, rfl, rfl⟩ := h9; exact zx_out g hrt hno (by decide) (by decide) ⟨rfl, Or.inr (⟨by simp [cWrite, hF, hcl, h9], rfl⟩)⟩) (fun r_13 M_13 h_13 => ?_)
  obtain ⟨hb_13, rfl, rfl⟩ := h_13
  obtain ⟨r, hr, -, rfl⟩ := isWd_of (n := 12) (w := w) hb_13
  have hwr : wr (lN (lv r)) = r := wr_lN hr
  have hc0 : cWrite S (lN (lv r)) (nI j) = 0 := by simp [cWrite, hF, hcl, hb_13]
  have loop : ∀ (k i : Nat) (s t : List Nat) (hk : k = s.length) (hj2 : i ≤ 12) (hs : LW (12 - i) s) (hf : s.reverse.map (fun q => rbk S j q) ++ t = r.map (fun q => rbk S j q)) (hsub : ∀ y ∈ s, y ∈ r) (hpr : ∀ y ∈ r, y ∈ s ∨ 0 < rbk S j y), Z X M 2 12 28 [(0, .ref x), (4, .ref (B 10 j)), (5, .long (lN (lv s))), (7, .long (lN (lv t))), (9, .int (nI i))] [] := by
    intro k
    induction k using Nat.strongRecOn with
    | _ k ih =>
      intro i s t hk hj2 hs hf hsub hpr
      refine z_iload g dX10_back_28 rfl ?_
      refine z_bipush (v := 12) g dX10_back_30 (by decide) ?_
      refine z_icmp_ge (tgt := 92) g dX10_back_32 (by decide) (fun c_32 => ?_) (fun c_32 => ?_)
      · have h8 : s = [] := by
          first
            | (rw [show (12 : Int32) = nI 12 from rfl, nI_leI (by omega) (by omega)] at c_32
               exact List.length_eq_zero_iff.mp (by have := hs.1; omega))
            | exact (lv_z hs).mp ((c0_le (LW.lt63 (n := 12) ⟨by have := hs.1; omega, hs.2⟩ (Nat.le_refl _))).mp c_39)
        have ht : t = r.map (fun q => rbk S j q) := by rw [← hf, h8]; rfl
        have hgood : ∀ y ∈ r, 0 < rbk S j y := fun y hy => by
          rcases hpr y hy with z | z
          · rw [h8] at z; cases z
          · exact z
        refine z_lload g dX10_back_92 rfl ?_
        exact z_lret g hrt (by decide) (by decide) dX10_back_94 ⟨hc0, by unfold vBack; rw [hcl, hwr, if_pos hgood, ht], agr.rf, B, RX_wi0 0 hX0⟩
      · refine z_lload g dX10_back_35 rfl ?_
        refine z_lconst (v := 0) g dX10_back_37 (by decide) ?_
        refine z_lcmp g dX10_back_38 ?_
        refine z_if_le (tgt := 92) g dX10_back_39 (by decide) (fun c_39 => ?_) (fun c_39 => ?_)
        · have h8 : s = [] := by
            first
              | (rw [show (12 : Int32) = nI 12 from rfl, nI_leI (by omega) (by omega)] at c_32
                 exact List.length_eq_zero_iff.mp (by have := hs.1; omega))
              | exact (lv_z hs).mp ((c0_le (LW.lt63 (n := 12) ⟨by have := hs.1; omega, hs.2⟩ (Nat.le_refl _))).mp c_39)
          have ht : t = r.map (fun q => rbk S j q) := by rw [← hf, h8]; rfl
          have hgood : ∀ y ∈ r, 0 < rbk S j y := fun y hy => by
            rcases hpr y hy with z | z
            · rw [h8] at z; cases z
            · exact z
          refine z_lload g dX10_back_92 rfl ?_
          exact z_lret g hrt (by decide) (by decide) dX10_back_94 ⟨hc0, by unfold vBack; rw [hcl, hwr, if_pos hgood, ht], agr.rf, B, RX_wi0 0 hX0⟩
        · obtain ⟨a, s, rfl⟩ : ∃ a s', s = a :: s' := by
            cases s with
            | nil => exact absurd ((c0_le (m := lv []) (by decide)).mpr rfl) c_39
            | cons a s => exact ⟨a, s, rfl⟩
          have ha := hs.2 a List.mem_cons_self
          have hls : lv (a :: s) < 2 ^ 63 := LW.lt63 (n := 12) ⟨by have := hs.1; omega, hs.2⟩ (Nat.le_refl _)
          have hl := hs.1
          simp only [List.length_cons] at hl hk
          have hrb := rbk_le S j a
          refine z_aload g dX10_back_42 rfl ?_
          refine z_lload g dX10_back_44 rfl ?_
          refine z_ldc2 g dX10_back_46 kc_X10_295 ?_
          refine z_lrem g dX10_back_49 (by decide) ?_
          rw [rem27 hls, lv_mod ha.2]
          refine z_l2i g dX10_back_50 ?_
          rw [l2i_n]
          refine z_callV g _ _ cv_X10_297 (c_oLT _ M (B 10 j) (B 171 j) k10 t0 k171 t27 (nI a)) (by assumption) (by decide) rfl (by rw [hR]; decide) (by rw [hR]; decide) (by rw [hR]; decide) (Nat.le_of_ble_eq_true rfl) rfl dX10_back_51 (fun _ _ h => False.elim h) (fun r_51 M_51 h_51 => ?_)
          obtain ⟨rfl, rfl⟩ := h_51
          have ho := oLT_rbk (S := S) (t := j) (a := a) (g := fI M (B 171 j)) (fun i hi => tv i (by omega))
          refine z_istore g dX10_back_54 (by rw [hN]; decide) ?_
          refine z_iload g dX10_back_56 rfl ?_
          refine z_iconst (v := (-1)) g dX10_back_58 (by decide) ?_
          refine z_icmp_ne (tgt := 66) g dX10_back_59 (by decide) (fun c_59 => ?_) (fun c_59 => ?_)
          rotate_left
          · refine z_ldc2 g dX10_back_62 kc_X10_300 ?_
            have h0 : rbk S j a = 0 := by
              rcases ho with z | z
              · exact z.2
              · rw [z.1] at c_59; exact absurd c_59 (nI_m1n (by omega))
            have hbad : ¬ ∀ y ∈ r, 0 < rbk S j y := fun z => by
              have := z a (hsub a List.mem_cons_self)
              rw [h0] at this; exact absurd this (by decide)
            exact z_lret g hrt (by decide) (by decide) dX10_back_65 ⟨hc0, by unfold vBack; rw [hcl, hwr, if_neg hbad], agr.rf, B, RX_wi0 0 hX0⟩
          have hpos : oLT (fI M (B 171 j)) (nI a) 26 = nI (rbk S j a) ∧ 0 < rbk S j a := by
            rcases ho with z | z
            · exact absurd z.1 c_59
            · exact z
          refine z_lload g dX10_back_66 rfl ?_
          refine z_ldc2 g dX10_back_68 kc_X10_295 ?_
          refine z_lmul g dX10_back_71 ?_
          refine z_iload g dX10_back_72 rfl ?_
          rw [hpos.1]
          refine z_i2l g dX10_back_74 ?_
          rw [i2l_n (by omega)]
          refine z_ladd g dX10_back_75 ?_
          rw [mul27, lN_add, show 27 * lv t + rbk S j a = lv (rbk S j a :: t) from Nat.add_comm _ _]
          refine z_lstore g dX10_back_76 (by rw [hN]; decide) ?_
          refine z_lload g dX10_back_78 rfl ?_
          refine z_ldc2 g dX10_back_80 kc_X10_295 ?_
          refine z_ldiv g dX10_back_83 (by decide) ?_
          rw [div27 hls, lv_div ha.2]
          refine z_lstore g dX10_back_84 (by rw [hN]; decide) ?_
          refine z_iinc1 g dX10_back_86 rfl (by rw [hN]; decide) ?_
          refine z_goto (tgt := 28) g dX10_back_89 (by decide) ?_
          rw [nI_s]
          refine z_to (ih s.length (by omega) (i + 1) s (rbk S j a :: t) rfl (by omega) ⟨by omega, fun y hy => hs.2 y (List.mem_cons_of_mem _ hy)⟩ (by rw [← hf, List.reverse_cons, List.map_append, List.append_assoc]; rfl) (fun y hy => hsub y (List.mem_cons_of_mem _ hy)) (fun y hy => ?_)) ⟨rfl, rfl, rfl, rfl, rfl, trivial⟩
          rcases hpr y hy with z | z
          · rcases List.mem_cons.mp z with q | q
            · rw [q]; exact Or.inr hpos.2
            · exact Or.inl q
          · exact Or.inr z
  refine z_lload_n g dX10_back_16 rfl ?_
  refine z_callS g _ _ cs_X10_291 (c_turned _ M r hr) rfl (by rw [hR]; decide) (by rw [hR]; decide) (by rw [hR]; decide) (Nat.le_of_ble_eq_true rfl) rfl dX10_back_17 (fun _ _ h => False.elim h) (fun r_17 M_17 h_17 => ?_)
  obtain ⟨rfl, rfl⟩ := h_17
  refine z_lstore g dX10_back_20 (by rw [hN]; decide) ?_
  refine z_lconst (v := 0) g dX10_back_22 (by decide) ?_
  refine z_lstore g dX10_back_23 (by rw [hN]; decide) ?_
  refine z_iconst (v := 0) g dX10_back_25 (by decide) ?_
  refine z_istore g dX10_back_26 (by rw [hN]; decide) ?_
  exact z_to (loop r.length 0 r.reverse [] (by rw [List.length_reverse]) (by decide) hr.rev (by rw [List.reverse_reverse, List.append_nil]) (fun y hy => List.mem_reverse.mp hy) (fun y hy => Or.inl (List.mem_reverse.mpr hy))) ⟨rfl, rfl, rfl, rfl, rfl, trivial⟩
def sbI : Option Nat → Int32
  | none => -1
  | some q => nI q
