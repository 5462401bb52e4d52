theorem k_plV (E : Ev) {B : Nat → Nat → Nat} {x : Nat} {S : Ms} (M : Mm) (hX : RX B x S M) (hV : INV S) (j : Nat) (hj : j < cn S 2) (d k : Int32) : CT E yX4_valueOn cX4_valueOn 7 (some .int) 4 0 0 [.ref (B 5 (2 * j)), .int d, .int k] M (ansI (plV S j d k) M) noX := by
  obtain ⟨qx, qs, qf, qd, qg, qh, qp, qw, qm, qe, ql, qq, qt, qr, qc, qo, qi⟩ := hX
  obtain ⟨-, -, -, -, ⟨k5a, -⟩, e5a, -⟩ := qf.2 j hj
  rw [← vOn_pl qp hV hj]
  exact c_vOn _ M _ _ (by rw [k5a]; omega) e5a (qp.LK qf hV hj) d k
theorem k_whA (E : Ev) {B : Nat → Nat → Nat} {x : Nat} {S : Ms} (M : Mm) (hX : RX B x S M) (hV : INV S) (j : Nat) (hj : j < cn S 2) (d k : Int32) : CT E yX4_valueOn cX4_valueOn 7 (some .int) 4 0 0 [.ref (B 5 (2 * j + 1)), .int d, .int k] M (ansI (whA S j d k) M) noX := by
  obtain ⟨qx, qs, qf, qd, qg, qh, qp, qw, qm, qe, ql, qq, qt, qr, qc, qo, qi⟩ := hX
  obtain ⟨-, -, -, -, ⟨-, k5b, -⟩, -, e5b, -⟩ := qf.2 j hj
  rw [← vOn_wh qw hV hj]
  exact c_vOn _ M _ _ (by rw [k5b]; omega) e5b (qw.LK qf hV hj) d k
theorem k_hEnd (E : Ev) {B : Nat → Nat → Nat} {x : Nat} {S : Ms} (M : Mm) (hX : RX B x S M) (j : Nat) (hj : j < cn S 2) (d k : Int32) : CT E yX3_hasEnded cX3_hasEnded 3 (some .boolean) 1 0 0 [.ref (B 4 j), .int d, .int k] M (ansI (b2i (enA S j d k)) M) noX := by
  obtain ⟨qx, qs, qf, qd, -⟩ := hX
  rw [← hEnd_en qd hj]
  exact c_hEnd _ M _ (qf.k4 hj) d k
theorem k_isTh (E : Ev) {B : Nat → Nat → Nat} {x : Nat} {S : Ms} (M : Mm) (hX : RX B x S M) (j : Nat) (hj : j < cn S 2) (d k : Int32) : CT E yX3_isThere cX3_isThere 3 (some .boolean) 2 0 0 [.ref (B 4 j), .int d, .int k] M (ansI (b2i (thA S j d k)) M) noX := by
  obtain ⟨qx, qs, qf, qd, -⟩ := hX
  rw [← isTh_th qf qd hj]
  exact c_isTh _ M _ (qf.k4 hj) d k
theorem k_nmA (E : Ev) {B : Nat → Nat → Nat} {x : Nat} {S : Ms} (M : Mm) (hX : RX B x S M) (hV : INV S) (j : Nat) (hj : j < cn S 2) (t d k : Int32) : CT E yX3_nameOn cX3_nameOn 7 (some (.object "NameLand$Name")) 4 0 0 [.ref (B 4 j), .int t, .int d, .int k] M (ansO ((nmA S (nI j) t d k).map (B 7)) M) noX := by
  obtain ⟨qx, qs, qf, qd, qg, qh, qp, qw, qm, qe, ql, qq, qt, qr, qc, qo, qi⟩ := hX
  obtain ⟨-, -, -, ⟨-, -, g4, -⟩, -⟩ := qf.2 j hj
  rw [← nOn_nmA qm hV hj]
  exact c_nOn _ M _ _ (qf.k4 hj) g4 (qm.LK qf hV hj) t d k
theorem k_exA (E : Ev) {B : Nat → Nat → Nat} {x : Nat} {S : Ms} (M : Mm) (hX : RX B x S M) (hV : INV S) (j : Nat) (hj : j < cn S 2) (t k : Int32) : CT E yX3_exemptFrom cX3_exemptFrom 6 (some .int) 4 0 0 [.ref (B 4 j), .int t, .int k] M (ansI (exA S (nI j) t k (cn S 31)) M) noX := by
  obtain ⟨qx, qs, qf, qd, qg, qh, qp, qw, qm, qe, ql, qq, qt, qr, qc, qo, qi⟩ := hX
  obtain ⟨-, -, -, ⟨-, -, -, g5, -⟩, -⟩ := qf.2 j hj
  rw [← xFr_exA qe hV hj]
  exact c_xFr _ M _ _ (qf.k4 hj) g5 (qe.LK qf hV hj) t k
theorem k_wtL (E : Ev) {B : Nat → Nat → Nat} {x : Nat} {S : Ms} (M : Mm) (hX : RX B x S M) (hV : INV S) (j : Nat) (hj : j < cn S 2) (w : Int64) : CT E yX3_hasEverBeen cX3_hasEverBeen 4 (some .boolean) 4 0 0 [.ref (B 4 j), .long w] M (ansI (b2i (wtL S j w (cn S 17))) M) noX := by
  obtain ⟨qx, qs, qf, qd, qg, qh, qp, qw, qm, qe, ql, qq, qt, qr, qc, qo, qi⟩ := hX
  obtain ⟨-, -, -, ⟨-, -, g4, -⟩, -⟩ := qf.2 j hj
  rw [← hBeen_wtL qm hV hj]
  exact c_hBeen _ M _ _ (qf.k4 hj) g4 (qm.LK qf hV hj) w
theorem ixB_ex {n : Nat} (hn : n < 2 ^ 30) {f : Int32} (h : ixB f (nI n) = true) : ∃ j, j < n ∧ f = nI j := by
  unfold ixB at h
  rw [Bool.and_eq_true, Bool.not_eq_true', decide_eq_false_iff_not, decide_eq_true_iff] at h
  rcases pk_ix f (n := n) (by omega) with z | z | z
  · exact absurd z h.1
  · exact absurd h.2 (Int32.not_lt.mpr z)
  · exact z
theorem ixB_in {n : Nat} (hn : n < 2 ^ 30) (f : Int32) : ixB f (nI n) = inB f 0 (nI n - 1) := by
  rcases inN hn f with h | ⟨j, hj, rfl, h⟩
  · rw [h]
    by_cases c : ixB f (nI n) = true
    · obtain ⟨j, hj, rfl⟩ := ixB_ex hn c
      rcases inN hn (nI j) with h2 | ⟨i, hi, e, h2⟩
      · exfalso
        unfold inB at h
        rw [show nI n - 1 = nI (n - 1) from pk_sub (b := 1) (by omega), decide_eq_false (nI_pos (by omega)), decide_eq_false (fun z => absurd ((nI_ltI (by omega) (by omega)).mp z) (by omega))] at h
        cases h
      · rw [h] at h2; cases h2
    · exact Bool.eq_false_iff.mpr c
  · rw [h]
    unfold ixB
    rw [decide_eq_false (nI_pos (by omega)), decide_eq_true (nI_lt hj (by omega))]; rfl
set_option maxHeartbeats 4000000 in
set_option maxRecDepth 100000 in
theorem k_feaAt (E : Ev) {B : Nat → Nat → Nat} {x : Nat} {S : Ms} (M : Mm) (hX : RX B x S M) (hV : INV S) (f : Int32) : CT E yX10_featureAt cX10_featureAt 2 (some (.object "NameLand$Feature")) 8 1 6 [.ref x, .int f] M (fun r M' => ∃ j, j < cn S 2 ∧ f = nI j ∧ r = some (.ref (B 4 j)) ∧ M = M') (thr (ixB f (nI (cn S 2))) IOE M) := by
  refine CT.of rfl (Nat.le_of_ble_eq_true rfl) (fun X g hrt hno hE hN hR hI => ?_)
  subst hE
  have hX0 := hX
  obtain ⟨qx, qs, qf, qd, qg, qh, qp, qw, qm, qe, ql, qq, qt, qr, qc, qo, qi⟩ := hX
  have k11 : kd M x % 1000 = 11 := by rw [qx.1]
  have r0 : fR M x 0 = some (B 400 0) := (qx.2.1 0 (by decide)).1
  have kl0 : kd M (B 400 0) = 400 := (qx.2.1 0 (by decide)).2
  have l0 : LK M (B 400 0) 4 := qf.LK kl0 hV.c2
  have m0 := l0.1
  have n0 : ln M (B 400 0) = cn S 2 := qf.1
  have b0 := l0.2.1
  rw [n0] at b0
  refine z_iload_n g dX10_featureAt_0 rfl ?_
  refine z_aload_n g dX10_featureAt_1 rfl ?_
  refine z_getR g fl_X10_10 (by assumption) (by decide) rfl (by assumption) dX10_featureAt_2 ?_
  refine z_callL g _ _ cv_X10_67 rfl (c_alsize _ M (B 400 0) l0.1) (by assumption) rfl (by rw [hR]; decide) (by rw [hR]; decide) (by rw [hR]; decide) (Nat.le_of_ble_eq_true rfl) rfl dX10_featureAt_5 (fun _ _ h => False.elim h) (fun r_5 M_5 h_5 => ?_)
  obtain ⟨rfl, rfl⟩ := h_5
  rw [n0]
  refine z_callS g _ _ cs_X10_206 (c_needIx _ M f (nI (cn S 2))) rfl (by rw [hR]; decide) (by rw [hR]; decide) (by rw [hR]; decide) (Nat.le_of_ble_eq_true rfl) rfl dX10_featureAt_8 (fun E9 M9 h9 => by obtain ⟨h9, rfl, rfl⟩ := h9; exact zx_out g hrt hno (by decide) (by decide) ⟨h9, rfl, rfl⟩) (fun r_8 M_8 h_8 => ?_)
  obtain ⟨hb_8, rfl, rfl⟩ := h_8
  obtain ⟨j, hj, rfl⟩ := ixB_ex (n := cn S 2) (by omega) hb_8
  refine z_aload_n g dX10_featureAt_11 rfl ?_
  refine z_getR g fl_X10_10 (by assumption) (by decide) rfl (by assumption) dX10_featureAt_12 ?_
  refine z_iload_n g dX10_featureAt_15 rfl ?_
  refine z_callL g _ _ cv_X10_310 rfl (c_getL _ M (B 400 0) j l0 (by rw [n0]; exact hj)) (by assumption) rfl (by rw [hR]; decide) (by rw [hR]; decide) (by rw [hR]; decide) (Nat.le_of_ble_eq_true rfl) rfl dX10_featureAt_16 (fun _ _ h => False.elim h) (fun r_16 M_16 h_16 => ?_)
  obtain ⟨rfl, rfl⟩ := h_16
  have kel : kd M (elt M (B 400 0) j) % 1000 = 4 := (l0.2.2 j (by rw [n0]; exact hj)).2
  refine z_cast (b := 4) g cl_X10_74 rfl (by assumption) (by decide) dX10_featureAt_19 ?_
  exact z_aret g hrt (Or.inl ⟨_, rfl⟩) (Or.inr ⟨_, rfl⟩) (by decide) (by decide) dX10_featureAt_22 ⟨j, hj, rfl, by rw [qf.at4 hj], rfl⟩
set_option maxHeartbeats 4000000 in
set_option maxRecDepth 100000 in
theorem k_petAt (E : Ev) {B : Nat → Nat → Nat} {x : Nat} {S : Ms} (M : Mm) (hX : RX B x S M) (hV : INV S) (f : Int32) : CT E yX10_petitionAt cX10_petitionAt 2 (some (.object "NameLand$Petition")) 8 1 6 [.ref x, .int f] M (fun r M' => ∃ j, j < cn S 36 ∧ f = nI j ∧ r = some (.ref (elt M (B 402 0) j)) ∧ M = M') (thr (ixB f (nI (cn S 36))) IOE M) := by
  refine CT.of rfl (Nat.le_of_ble_eq_true rfl) (fun X g hrt hno hE hN hR hI => ?_)
  subst hE
  have hX0 := hX
  obtain ⟨qx, qs, qf, qd, qg, qh, qp, qw, qm, qe, ql, qq, qt, qr, qc, qo, qi⟩ := hX
  have k11 : kd M x % 1000 = 11 := by rw [qx.1]
  have r2 : fR M x 2 = some (B 402 0) := (qx.2.1 2 (by decide)).1
  have kl2 : kd M (B 402 0) = 402 := (qx.2.1 2 (by decide)).2
  have l2 : LK M (B 402 0) 8 := qq.LK kl2 hV
  have m2 := l2.1
  have n2 : ln M (B 402 0) = cn S 36 := qq.1
  have b2 := l2.2.1
  rw [n2] at b2
  refine z_iload_n g dX10_petitionAt_0 rfl ?_
  refine z_aload_n g dX10_petitionAt_1 rfl ?_
  refine z_getR g fl_X10_19 (by assumption) (by decide) rfl (by assumption) dX10_petitionAt_2 ?_
  refine z_callL g _ _ cv_X10_67 rfl (c_alsize _ M (B 402 0) l2.1) (by assumption) rfl (by rw [hR]; decide) (by rw [hR]; decide) (by rw [hR]; decide) (Nat.le_of_ble_eq_true rfl) rfl dX10_petitionAt_5 (fun _ _ h => False.elim h) (fun r_5 M_5 h_5 => ?_)
  obtain ⟨rfl, rfl⟩ := h_5
  rw [n2]
  refine z_callS g _ _ cs_X10_206 (c_needIx _ M f (nI (cn S 36))) rfl (by rw [hR]; decide) (by rw [hR]; decide) (by rw [hR]; decide) (Nat.le_of_ble_eq_true rfl) rfl dX10_petitionAt_8 (fun E9 M9 h9 => by obtain ⟨h9, rfl, rfl⟩ := h9; exact zx_out g hrt hno (by decide) (by decide) ⟨h9, rfl, rfl⟩) (fun r_8 M_8 h_8 => ?_)
  obtain ⟨hb_8, rfl, rfl⟩ := h_8
  obtain ⟨j, hj, rfl⟩ := ixB_ex (n := cn S 36) (by omega) hb_8
  refine z_aload_n g dX10_petitionAt_11 rfl ?_
  refine z_getR g fl_X10_19 (by assumption) (by decide) rfl (by assumption) dX10_petitionAt_12 ?_
  refine z_iload_n g dX10_petitionAt_15 rfl ?_
  refine z_callL g _ _ cv_X10_310 rfl (c_getL _ M (B 402 0) j l2 (by rw [n2]; exact hj)) (by assumption) rfl (by rw [hR]; decide) (by rw [hR]; decide) (by rw [hR]; decide) (Nat.le_of_ble_eq_true rfl) rfl dX10_petitionAt_16 (fun _ _ h => False.elim h) (fun r_16 M_16 h_16 => ?_)
  obtain ⟨rfl, rfl⟩ := h_16
  have kel : kd M (elt M (B 402 0) j) % 1000 = 8 := (l2.2.2 j (by rw [n2]; exact hj)).2
  refine z_cast (b := 8) g cl_X10_197 rfl (by assumption) (by decide) dX10_petitionAt_19 ?_
  exact z_aret g hrt (Or.inl ⟨_, rfl⟩) (Or.inr ⟨_, rfl⟩) (by decide) (by decide) dX10_petitionAt_22 ⟨j, hj, rfl, rfl, rfl⟩
set_option maxHeartbeats 4000000 in
set_option maxRecDepth 100000 in
theorem k_tabAt (E : Ev) {B : Nat → Nat → Nat} {x : Nat} {S : Ms} (M : Mm) (hX : RX B x S M) (hV : INV S) (f : Int32) : CT E yX10_tableAt cX10_tableAt 2 (some (.object "NameLand$Table")) 8 1 6 [.ref x, .int f] M (fun r M' => ∃ j, j < 4 ∧ f = nI j ∧ r = some (.ref (B 10 j)) ∧ M = M') (thr (ixB f (nI (4))) IOE M) := by
  refine CT.of rfl (Nat.le_of_ble_eq_true rfl) (fun X g hrt hno hE hN hR hI => ?_)
  subst hE
  have hX0 := hX
  obtain ⟨qx, qs, qf, qd, qg, qh, qp, qw, qm, qe, ql, qq, qt, qr, qc, qo, qi⟩ := hX
  have k11 : kd M x % 1000 = 11 := by rw [qx.1]
  have r3 : fR M x 3 = some (B 403 0) := (qx.2.1 3 (by decide)).1
  have kl3 : kd M (B 403 0) = 403 := (qx.2.1 3 (by decide)).2
  have l3 : LK M (B 403 0) 10 := qt.LK kl3
  have m3 := l3.1
  have n3 : ln M (B 403 0) = 4 := qt.1
  have b3 := l3.2.1
  rw [n3] at b3
  refine z_iload_n g dX10_tableAt_0 rfl ?_
  refine z_aload_n g dX10_tableAt_1 rfl ?_
  refine z_getR g fl_X10_22 (by assumption) (by decide) rfl (by assumption) dX10_tableAt_2 ?_
  refine z_callL g _ _ cv_X10_67 rfl (c_alsize _ M (B 403 0) l3.1) (by assumption) rfl (by rw [hR]; decide) (by rw [hR]; decide) (by rw [hR]; decide) (Nat.le_of_ble_eq_true rfl) rfl dX10_tableAt_5 (fun _ _ h => False.elim h) (fun r_5 M_5 h_5 => ?_)
  obtain ⟨rfl, rfl⟩ := h_5
  rw [n3]
  refine z_callS g _ _ cs_X10_206 (c_needIx _ M f (nI (4))) rfl (by rw [hR]; decide) (by rw [hR]; decide) (by rw [hR]; decide) (Nat.le_of_ble_eq_true rfl) rfl dX10_tableAt_8 (fun E9 M9 h9 => by obtain ⟨h9, rfl, rfl⟩ := h9; exact zx_out g hrt hno (by decide) (by decide) ⟨h9, rfl, rfl⟩) (fun r_8 M_8 h_8 => ?_)
  obtain ⟨hb_8, rfl, rfl⟩ := h_8
  obtain ⟨j, hj, rfl⟩ := ixB_ex (n := 4) (by omega) hb_8
  refine z_aload_n g dX10_tableAt_11 rfl ?_
  refine z_getR g fl_X10_22 (by assumption) (by decide) rfl (by assumption) dX10_tableAt_12 ?_
  refine z_iload_n g dX10_tableAt_15 rfl ?_
  refine z_callL g _ _ cv_X10_310 rfl (c_getL _ M (B 403 0) j l3 (by rw [n3]; exact hj)) (by assumption) rfl (by rw [hR]; decide) (by rw [hR]; decide) (by rw [hR]; decide) (Nat.le_of_ble_eq_true rfl) rfl dX10_tableAt_16 (fun _ _ h => False.elim h) (fun r_16 M_16 h_16 => ?_)
  obtain ⟨rfl, rfl⟩ := h_16
  have kel : kd M (elt M (B 403 0) j) % 1000 = 10 := (l3.2.2 j (by rw [n3]; exact hj)).2
  refine z_cast (b := 10) g cl_X10_52 rfl (by assumption) (by decide) dX10_tableAt_19 ?_
  exact z_aret g hrt (Or.inl ⟨_, rfl⟩) (Or.inr ⟨_, rfl⟩) (by decide) (by decide) dX10_tableAt_22 ⟨j, hj, rfl, by rw [qt.at10 hj], rfl⟩
set_option maxHeartbeats 4000000 in
set_option maxRecDepth 100000 in
theorem k_needFN (E : Ev) {B : Nat → Nat → Nat} {x : Nat} {S : Ms} (M : Mm) (hX : RX B x S M) (hV : INV S) (f : Int32) : CT E yX10_needFeatureOrNone cX10_needFeatureOrNone 2 none 8 1 6 [.ref x, .int f] M (chk (decide (f = -1) || ixB f (nI (cn S 2))) M) (thr (decide (f = -1) || ixB f (nI (cn S 2))) IOE M) := by
  refine CT.of rfl (Nat.le_of_ble_eq_true rfl) (fun X g hrt hno hE hN hR hI => ?_)
  subst hE
  have hX0 := hX
  obtain ⟨qx, qs, qf, qd, qg, qh, qp, qw, qm, qe, ql, qq, qt, qr, qc, qo, qi⟩ := hX
  have k11 : kd M x % 1000 = 11 := by rw [qx.1]
  have r0 : fR M x 0 = some (B 400 0) := (qx.2.1 0 (by decide)).1
  have kl0 : kd M (B 400 0) = 400 := (qx.2.1 0 (by decide)).2
  have l0 : LK M (B 400 0) 4 := qf.LK kl0 hV.c2
  have m0 := l0.1
  have n0 : ln M (B 400 0) = cn S 2 := qf.1
  have b0 := l0.2.1
  rw [n0] at b0
  refine z_iload_n g dX10_needFeatureOrNone_0 rfl ?_
  refine z_iconst (v := (-1)) g dX10_needFeatureOrNone_1 (by decide) ?_
  refine z_icmp_eq (tgt := 16) g dX10_needFeatureOrNone_2 (by decide) (fun c_2 => ?_) (fun c_2 => ?_)
  · exact z_vret g hrt (by decide) (by decide) dX10_needFeatureOrNone_16 ⟨by first | (rw [c_2]; rfl) | (rw [hb_13, Bool.or_true]), rfl, rfl⟩
  · refine z_iload_n g dX10_needFeatureOrNone_5 rfl ?_
    refine z_aload_n g dX10_needFeatureOrNone_6 rfl ?_
    refine z_getR g fl_X10_10 (by assumption) (by decide) rfl (by assumption) dX10_needFeatureOrNone_7 ?_
    refine z_callL g _ _ cv_X10_67 rfl (c_alsize _ M (B 400 0) l0.1) (by assumption) rfl (by rw [hR]; decide) (by rw [hR]; decide) (by rw [hR]; decide) (Nat.le_of_ble_eq_true rfl) rfl dX10_needFeatureOrNone_10 (fun _ _ h => False.elim h) (fun r_10 M_10 h_10 => ?_)
    obtain ⟨rfl, rfl⟩ := h_10
    rw [n0]
    refine z_callS g _ _ cs_X10_206 (c_needIx _ M f (nI (cn S 2))) rfl (by rw [hR]; decide) (by rw [hR]; decide) (by rw [hR]; decide) (Nat.le_of_ble_eq_true rfl) rfl dX10_needFeatureOrNone_13 (fun E9 M9 h9 => by obtain ⟨h9, rfl, rfl⟩ := h9; exact zx_out g hrt hno (by decide) (by decide) ⟨by rw [h9, decide_eq_false c_2]; rfl, rfl, rfl⟩) (fun r_13 M_13 h_13 => ?_)
    obtain ⟨hb_13, rfl, rfl⟩ := h_13
    exact z_vret g hrt (by decide) (by decide) dX10_needFeatureOrNone_16 ⟨by first | (rw [c_2]; rfl) | (rw [hb_13, Bool.or_true]), rfl, rfl⟩
theorem nI_m1n {n : Nat} (h : n < 2 ^ 31) : ¬ nI n = -1 := fun z => by
  have := nI_pos h
  rw [z] at this; exact this (by decide)
theorem ab_e (x : Int32) : (if 0 ≤ x then x else 0 - x) = abI x := by
  unfold abI
  rw [Int32.zero_sub]
theorem fst_pl {a b : Nat} (ha : a ≤ 99) (hb : b ≤ 99) : fstN (nI a * 100 + nI b) = nI a := by
  have e : nI a * 100 + nI b = nI (a * 100 + b) := by rw [show (100 : Int32) = nI 100 from rfl, pk_mul, nI_add]
  unfold fstN
  rw [e, if_neg (fun z => nI_m1n (by omega) z), show (100 : Int32) = nI 100 from rfl, pk_div (by omega) (by decide) (by decide)]
  congr 1; omega
theorem snd_pl {a b : Nat} (ha : a ≤ 99) (hb : b ≤ 99) : sndN (nI a * 100 + nI b) = nI b := by
  have e : nI a * 100 + nI b = nI (a * 100 + b) := by rw [show (100 : Int32) = nI 100 from rfl, pk_mul, nI_add]
  unfold sndN
  rw [e, if_neg (fun z => nI_m1n (by omega) z), show (100 : Int32) = nI 100 from rfl, pk_rem (by omega) (by decide) (by decide)]
  congr 1; omega
theorem pl_fst {S : Ms} (hV : INV S) {f : Nat} (hf : f < cn S 2) (d k : Int32) : fstN (plV S f d k) = match plA S f d k with
    | none => -1
    | some q => gA S 6 (40 * f + q) := by
  unfold plV
  rcases hp : plA S f d k with _ | q
  · rfl
  · have hb := (bst_mem hp).1
    have hv := (hV.2.1 f hf).2.2.2.2.2.1 q hb
    dsimp only
    rw [hv.1.1, hv.2.1.1, fst_pl hv.1.2 hv.2.1.2]
theorem pl_snd {S : Ms} (hV : INV S) {f : Nat} (hf : f < cn S 2) (d k : Int32) : sndN (plV S f d k) = match plA S f d k with
    | none => -1
    | some q => gA S 7 (40 * f + q) := by
  unfold plV
  rcases hp : plA S f d k with _ | q
  · rfl
  · have hb := (bst_mem hp).1
    have hv := (hV.2.1 f hf).2.2.2.2.2.1 q hb
    dsimp only
    rw [hv.1.1, hv.2.1.1, snd_pl hv.1.2 hv.2.1.2]
set_option maxHeartbeats 4000000 in
set_option maxRecDepth 100000 in
theorem k_dist (E : Ev) {B : Nat → Nat → Nat} {x : Nat} {S : Ms} (M : Mm) (hX : RX B x S M) (hV : INV S) (j : Nat) (hj : j < cn S 2) (p q : Int32) : CT E yX10_distance cX10_distance 5 (some .int) 5 0 0 [.ref x, .ref (B 4 j), .int p, .int q] M (ansI (awyA S j p q) M) noX := by
  refine CT.of rfl (Nat.le_of_ble_eq_true rfl) (fun X g hrt hno hE hN hR hI => ?_)
  subst hE
  have hX0 := hX
  obtain ⟨qx, qs, qf, qd, qg, qh, qp, qw, qm, qe, ql, qq, qt, qr, qc, qo, qi⟩ := hX
  have k11 : kd M x % 1000 = 11 := by rw [qx.1]
  have k4 : kd M (B 4 j) % 1000 = 4 := qf.k4 hj
  obtain ⟨-, -, ⟨fk0, fk1⟩, ⟨g2, g3, g4, g5, g6⟩, ⟨k5a, k5b, -⟩, e5a, e5b, l170⟩ := qf.2 j hj
  have k5a1 : kd M (B 5 (2 * j)) % 1000 = 5 := by rw [k5a]; omega
  have k5b1 : kd M (B 5 (2 * j + 1)) % 1000 = 5 := by rw [k5b]; omega
  have k170 : kd M (B 170 j) % 1000 = 170 := qf.k170 hj
  obtain ⟨i, hq, hi⟩ := plA_ex hV hj
  refine z_aload_n g dX10_distance_0 rfl ?_
  refine z_getR g fl_X10_82 (by assumption) (by decide) rfl (by assumption) dX10_distance_1 ?_
  refine z_aload_n g dX10_distance_4 rfl ?_
  refine z_getI g fl_X10_76 (by assumption) (by decide) rfl dX10_distance_5 ?_
  rw [show fI M x 10 = gi S 1 from qs.1]
  refine z_aload_n g dX10_distance_8 rfl ?_
  refine z_getI g fl_X10_76 (by assumption) (by decide) rfl dX10_distance_9 ?_
  rw [show fI M x 10 = gi S 1 from qs.1]
  refine z_callV g _ _ cv_X10_131 (k_plV _ M hX0 hV j hj (gi S 1) (gi S 1)) (by assumption) (by decide) rfl (by rw [hR]; decide) (by rw [hR]; decide) (by rw [hR]; decide) (Nat.le_of_ble_eq_true rfl) rfl dX10_distance_12 (fun _ _ h => False.elim h) (fun r_12 M_12 h_12 => ?_)
  obtain ⟨rfl, rfl⟩ := h_12
  refine z_istore g dX10_distance_15 (by rw [hN]; decide) ?_
  refine z_iload g dX10_distance_17 rfl ?_
  refine z_callS g _ _ cs_X10_134 (c_fst _ M (plV S j (gi S 1) (gi S 1))) rfl (by rw [hR]; decide) (by rw [hR]; decide) (by rw [hR]; decide) (Nat.le_of_ble_eq_true rfl) rfl dX10_distance_19 (fun _ _ h => False.elim h) (fun r_19 M_19 h_19 => ?_)
  obtain ⟨rfl, rfl⟩ := h_19
  rw [pl_fst hV hj, hq]
  dsimp only
  refine z_iload_n g dX10_distance_22 rfl ?_
  refine z_isub g dX10_distance_23 ?_
  refine z_mabs g ml_X10_362 (by rw [hR]; decide) (by rw [hR]; exact Nat.le_of_ble_eq_true rfl) (by rw [hR]; decide) (by rw [hR]; decide) dX10_distance_24 ?_
  refine z_iload g dX10_distance_27 rfl ?_
  refine z_callS g _ _ cs_X10_138 (c_snd _ M (plV S j (gi S 1) (gi S 1))) rfl (by rw [hR]; decide) (by rw [hR]; decide) (by rw [hR]; decide) (Nat.le_of_ble_eq_true rfl) rfl dX10_distance_29 (fun _ _ h => False.elim h) (fun r_29 M_29 h_29 => ?_)
  obtain ⟨rfl, rfl⟩ := h_29
  rw [pl_snd hV hj, hq]
  dsimp only
  refine z_iload_n g dX10_distance_32 rfl ?_
  refine z_isub g dX10_distance_33 ?_
  refine z_mabs g ml_X10_362 (by rw [hR]; decide) (by rw [hR]; exact Nat.le_of_ble_eq_true rfl) (by rw [hR]; decide) (by rw [hR]; decide) dX10_distance_34 ?_
  refine z_iadd g dX10_distance_37 ?_
  exact z_iret g hrt rfl (by decide) (by decide) dX10_distance_38 ⟨by rw [ab_e, ab_e]; unfold awyA; rw [hq], rfl⟩
set_option maxHeartbeats 4000000 in
set_option maxRecDepth 100000 in
theorem k_plLaw (E : Ev) {B : Nat → Nat → Nat} {x : Nat} {S : Ms} (M : Mm) (hX : RX B x S M) (hV : INV S) (d : Int32) : CT E yX10_placeOfLaw cX10_placeOfLaw 3 (some .int) 5 0 0 [.ref x, .int d] M (fun r M' => ∃ j, j ≤ cn S 24 ∧ (∀ i, i < j → fI M (elt M (B 401 0) i) 1 ≤ d) ∧ (j < cn S 24 → d < fI M (elt M (B 401 0) j) 1) ∧ r = some (.int (nI j)) ∧ M = M') noX := by
  refine CT.of rfl (Nat.le_of_ble_eq_true rfl) (fun X g hrt hno hE hN hR hI => ?_)
  subst hE
  have hX0 := hX
  obtain ⟨qx, qs, qf, qd, qg, qh, qp, qw, qm, qe, ql, qq, qt, qr, qc, qo, qi⟩ := hX
  have k11 : kd M x % 1000 = 11 := by rw [qx.1]
  have r1 : fR M x 1 = some (B 401 0) := (qx.2.1 1 (by decide)).1
  have kl1 : kd M (B 401 0) = 401 := (qx.2.1 1 (by decide)).2
  have l1 : LK M (B 401 0) 6 := ql.LK kl1 hV
  have m1 := l1.1
  have n1 : ln M (B 401 0) = cn S 24 := ql.1
  have b1 := l1.2.1
  rw [n1] at b1
  have loop : ∀ (k j : Nat) (hk : k + j = cn S 24) (hlo : ∀ i, i < j → fI M (elt M (B 401 0) i) 1 ≤ d), Z X M 0 0 2 [(0, .ref x), (1, .int d), (2, .int (nI j))] [] := by
    intro k
    induction k using Nat.strongRecOn with
    | _ k ih =>
      intro j hk hlo
      refine z_iload_n g dX10_placeOfLaw_2 rfl ?_
      refine z_aload_n g dX10_placeOfLaw_3 rfl ?_
      refine z_getR g fl_X10_16 (by assumption) (by decide) rfl (by assumption) dX10_placeOfLaw_4 ?_
      refine z_callL g _ _ cv_X10_67 rfl (c_alsize _ M (B 401 0) l1.1) (by assumption) rfl (by rw [hR]; decide) (by rw [hR]; decide) (by rw [hR]; decide) (Nat.le_of_ble_eq_true rfl) rfl dX10_placeOfLaw_7 (fun _ _ h => False.elim h) (fun r_7 M_7 h_7 => ?_)
      obtain ⟨rfl, rfl⟩ := h_7
      rw [n1]
      refine z_icmp_ge (tgt := 39) g dX10_placeOfLaw_10 (by decide) (fun c_10 => ?_) (fun c_10 => ?_)
      · rw [nI_leI (by omega) (by omega)] at c_10
        refine z_aload_n g dX10_placeOfLaw_39 rfl ?_
        refine z_getR g fl_X10_16 (by assumption) (by decide) rfl (by assumption) dX10_placeOfLaw_40 ?_
        refine z_callL g _ _ cv_X10_67 rfl (c_alsize _ M (B 401 0) l1.1) (by assumption) rfl (by rw [hR]; decide) (by rw [hR]; decide) (by rw [hR]; decide) (Nat.le_of_ble_eq_true rfl) rfl dX10_placeOfLaw_43 (fun _ _ h => False.elim h) (fun r_43 M_43 h_43 => ?_)
        obtain ⟨rfl, rfl⟩ := h_43
        rw [n1]
        exact z_iret g hrt rfl (by decide) (by decide) dX10_placeOfLaw_46 ⟨cn S 24, Nat.le_refl _, fun i hi => hlo i (by omega), fun h => absurd h (Nat.lt_irrefl _), rfl, rfl⟩
      have hj : j < cn S 24 := by rw [nI_leI (by omega) (by omega)] at c_10; omega
      refine z_aload_n g dX10_placeOfLaw_13 rfl ?_
      refine z_getR g fl_X10_16 (by assumption) (by decide) rfl (by assumption) dX10_placeOfLaw_14 ?_
      refine z_iload_n g dX10_placeOfLaw_17 rfl ?_
      refine z_callL g _ _ cv_X10_310 rfl (c_getL _ M (B 401 0) j l1 (by rw [n1]; exact hj)) (by assumption) rfl (by rw [hR]; decide) (by rw [hR]; decide) (by rw [hR]; decide) (Nat.le_of_ble_eq_true rfl) rfl dX10_placeOfLaw_18 (fun _ _ h => False.elim h) (fun r_18 M_18 h_18 => ?_)
      obtain ⟨rfl, rfl⟩ := h_18
      have kel : kd M (elt M (B 401 0) j) % 1000 = 6 := (l1.2.2 j (by rw [n1]; exact hj)).2
      refine z_cast (b := 6) g cl_X10_172 rfl (by assumption) (by decide) dX10_placeOfLaw_21 ?_
      refine z_getI g fl_X10_369 (by assumption) (by decide) rfl dX10_placeOfLaw_24 ?_
      refine z_iload_n g dX10_placeOfLaw_27 rfl ?_
      refine z_icmp_le (tgt := 33) g dX10_placeOfLaw_28 (by decide) (fun c_28 => ?_) (fun c_28 => ?_)
      · refine z_iinc1 g dX10_placeOfLaw_33 rfl (by rw [hN]; decide) ?_
        refine z_goto (tgt := 2) g dX10_placeOfLaw_36 (by decide) ?_
        rw [nI_s]
        exact z_to (ih (k - 1) (by omega) (j + 1) (by omega) (fun i hi => by
          rcases Nat.lt_or_ge i j with z | z
          · exact hlo i z
          · rw [show i = j by omega]; exact c_28)) ⟨rfl, rfl, rfl, trivial⟩
      · refine z_iload_n g dX10_placeOfLaw_31 rfl ?_
        exact z_iret g hrt rfl (by decide) (by decide) dX10_placeOfLaw_32 ⟨j, by omega, hlo, fun _ => Int32.not_le.mp c_28, rfl, rfl⟩
  refine z_iconst (v := 0) g dX10_placeOfLaw_0 (by decide) ?_
  refine z_istore_n g dX10_placeOfLaw_1 (by rw [hN]; decide) ?_
  exact z_to (loop (cn S 24) 0 rfl (fun i hi => absurd hi (Nat.not_lt_zero i))) ⟨rfl, rfl, rfl, trivial⟩
def kyA (S : Ms) (σ : Nat → Nat) : Nat → Nat
  | 0 => 0
  | j + 1 => lkey S (σ j) + 1
theorem ky_stay {S : Ms} (hL : LawOK S) {σ : Nat → Nat} {p : Nat → Bool} {u : List Nat} (s1 : ∀ i, i < cn S 24 → σ i < cn S 24) (s2 : ∀ i j, i < j → j < cn S 24 → lkey S (σ i) < lkey S (σ j)) (s3 : ∀ q, q < cn S 24 → ∃ i, i < cn S 24 ∧ σ i = q) {j : Nat} (hj : j < cn S 24) (hp : ¬ p (σ j) = true) :
    prc S p u (lkey S (σ j) + 1) = prc S p u (kyA S σ j) := by
  refine prc_skip hL.2.1 ?_ (fun l h1 h2 h3 h4 => ?_)
  · cases j with
    | zero => exact Nat.zero_le _
    | succ j => have := s2 j (j + 1) (by omega) hj; show lkey S (σ j) + 1 ≤ _; omega
  · obtain ⟨i, hi, rfl⟩ := s3 l h1
    rcases Nat.lt_trichotomy i j with z | z | z
    · have : kyA S σ (i + 1) ≤ kyA S σ j := by
        cases j with
        | zero => omega
        | succ j =>
          show lkey S (σ i) + 1 ≤ lkey S (σ j) + 1
          rcases Nat.lt_or_ge i j with y | y
          · have := s2 i j y (by omega); omega
          · rw [show i = j by omega]; exact Nat.le_refl _
      have e : kyA S σ (i + 1) = lkey S (σ i) + 1 := rfl
      omega
    · rw [z] at h2; exact hp h2
    · have := s2 j i z hi; omega
theorem ky_next {S : Ms} (hL : LawOK S) {σ : Nat → Nat} {p : Nat → Bool} {u : List Nat} (s1 : ∀ i, i < cn S 24 → σ i < cn S 24) (s2 : ∀ i j, i < j → j < cn S 24 → lkey S (σ i) < lkey S (σ j)) (s3 : ∀ q, q < cn S 24 → ∃ i, i < cn S 24 ∧ σ i = q) {j : Nat} (hj : j < cn S 24) (hp : p (σ j) = true) :
    prc S p u (lkey S (σ j) + 1) = aplL S (σ j) (prc S p u (kyA S σ j)) := by
  rw [prc_at hL.2.1 (s1 j hj) hp]
  congr 1
  refine prc_skip hL.2.1 ?_ (fun l h1 h2 h3 h4 => ?_)
  · cases j with
    | zero => exact Nat.zero_le _
    | succ j => have := s2 j (j + 1) (by omega) hj; show lkey S (σ j) + 1 ≤ _; omega
  · obtain ⟨i, hi, rfl⟩ := s3 l h1
    rcases Nat.lt_or_ge i j with z | z
    · have : kyA S σ (i + 1) ≤ kyA S σ j := by
        cases j with
        | zero => omega
        | succ j =>
          show lkey S (σ i) + 1 ≤ lkey S (σ j) + 1
          rcases Nat.lt_or_ge i j with y | y
          · have := s2 i j y (by omega); omega
          · rw [show i = j by omega]; exact Nat.le_refl _
      have e : kyA S σ (i + 1) = lkey S (σ i) + 1 := rfl
      omega
    · rcases Nat.lt_or_ge j i with y | y
      · have := s2 j i y hi; omega
      · rw [show i = j by omega] at h4; omega
theorem ky_all {S : Ms} (hL : LawOK S) {σ : Nat → Nat} {p : Nat → Bool} {u : List Nat} (s1 : ∀ i, i < cn S 24 → σ i < cn S 24) (s2 : ∀ i j, i < j → j < cn S 24 → lkey S (σ i) < lkey S (σ j)) (s3 : ∀ q, q < cn S 24 → ∃ i, i < cn S 24 ∧ σ i = q) :
    prc S p u 120000 = prc S p u (kyA S σ (cn S 24)) := by
  refine prc_skip hL.2.1 ?_ (fun l h1 h2 h3 h4 => ?_)
  · cases hc : cn S 24 with
    | zero => exact Nat.zero_le _
    | succ j => have := lkey_lt hL (s1 j (by omega)); show lkey S (σ j) + 1 ≤ _; omega
  · obtain ⟨i, hi, rfl⟩ := s3 l h1
    cases hc : cn S 24 with
    | zero => omega
    | succ j =>
      rw [hc] at h3
      change lkey S (σ j) + 1 ≤ _ at h3
      rcases Nat.lt_or_ge i j with y | y
      · have := s2 i j y (by omega); omega
      · rw [show i = j by omega] at h3; omega
theorem lawP_iff2 {S : Ms} {t dn d k bf : Int32} {PP : Nat → Bool} (h : PP = lawP S t dn d k bf) (l : Nat) : PP l = true ↔ (gA S 25 l = t ∧ ¬ k < gA S 30 l ∧ ¬ gA S 26 l ≤ dn ∧ ¬ d < gA S 26 l ∧ ¬ bf ≤ gA S 26 l) := by
  rw [h]
  unfold lawP
  rw [Bool.and_eq_true, Bool.and_eq_true, Bool.and_eq_true, Bool.and_eq_true, decide_eq_true_iff, Bool.not_eq_true', Bool.not_eq_true', Bool.not_eq_true', Bool.not_eq_true', decide_eq_false_iff_not, decide_eq_false_iff_not, decide_eq_false_iff_not, decide_eq_false_iff_not]
set_option maxHeartbeats 4000000 in
set_option maxRecDepth 100000 in
theorem k_form (E : Ev) {B : Nat → Nat → Nat} {x : Nat} {S : Ms} (M : Mm) (hX : RX B x S M) (hV : INV S) (f : Nat) (hf : f < cn S 2) (t d k : Int32) : CT E yX10_formOn cX10_formOn 12 (some .long) 5 0 0 [.ref x, .ref (B 4 f), .int t, .int d, .int k] M (ansL (formA S (nI f) t d k) M) noX := by
  refine CT.of rfl (Nat.le_of_ble_eq_true rfl) (fun X g hrt hno hE hN hR hI => ?_)
  subst hE
  have hX0 := hX
  obtain ⟨qx, qs, qf, qd, qg, qh, qp, qw, qm, qe, ql, qq, qt, qr, qc, qo, qi⟩ := hX
  have k11 : kd M x % 1000 = 11 := by rw [qx.1]
  have r1 : fR M x 1 = some (B 401 0) := (qx.2.1 1 (by decide)).1
  have kl1 : kd M (B 401 0) = 401 := (qx.2.1 1 (by decide)).2
  have l1 : LK M (B 401 0) 6 := ql.LK kl1 hV
  have m1 := l1.1
  have n1 : ln M (B 401 0) = cn S 24 := ql.1
  have b1 := l1.2.1
  rw [n1] at b1
  have k4 : kd M (B 4 f) % 1000 = 4 := qf.k4 hf
  obtain ⟨-, -, ⟨fk0, fk1⟩, ⟨g2, g3, g4, g5, g6⟩, ⟨k5a, k5b, -⟩, e5a, e5b, l170⟩ := qf.2 f hf
  have k5a1 : kd M (B 5 (2 * f)) % 1000 = 5 := by rw [k5a]; omega
  have k5b1 : kd M (B 5 (2 * f + 1)) % 1000 = 5 := by rw [k5b]; omega
  have k170 : kd M (B 170 f) % 1000 = 170 := qf.k170 hf
  refine z_aload_n g dX10_formOn_0 rfl ?_
  refine z_iload_n g dX10_formOn_1 rfl ?_
  refine z_iload_n g dX10_formOn_2 rfl ?_
  refine z_iload g dX10_formOn_3 rfl ?_
  refine z_callV g _ _ cv_X10_370 (k_nmA _ M hX0 hV f hf t d k) (by assumption) (by decide) rfl (by rw [hR]; decide) (by rw [hR]; decide) (by rw [hR]; decide) (Nat.le_of_ble_eq_true rfl) rfl dX10_formOn_5 (fun _ _ h => False.elim h) (fun r_5 M_5 h_5 => ?_)
  obtain ⟨rfl, rfl⟩ := h_5
  rcases ho : nmA S (nI f) t d k with _ | n
  · show Z X M _ _ 8 _ [.null]
    refine z_astoreN g dX10_formOn_8 (by rw [hN]; decide) ?_
    refine z_aloadN g dX10_formOn_10 rfl ?_
    refine z_ifnonnullN g dX10_formOn_12 ?_
    refine z_lconst (v := 0) g dX10_formOn_15 (by decide) ?_
    exact z_lret g hrt (by decide) (by decide) dX10_formOn_16 ⟨by unfold formA; rw [ho], rfl⟩
  · show Z X M _ _ 8 _ [.ref (B 7 n)]
    have hn := (bst_mem ho).1
    obtain ⟨-, k7a, -, hnw, hnd, -⟩ := qm.2 n hn
    have k7 : kd M (B 7 n) % 1000 = 7 := by rw [k7a]; omega
    have hwd := (hV.2.2.2.1 n hn).2.2.2.1
    have hnw2 := hwd.2.2
    have hL := hV.OkF.2.1
    obtain ⟨-, σ, s0, s2, s3⟩ := ql
    have s1 : ∀ i, i < cn S 24 → σ i < cn S 24 := fun i hi => (s0 i hi).1
    have s4 : ∀ i, i < cn S 24 → qL1 S M (B 401 0) i (σ i) := fun i hi => (s0 i hi).2
    have ⟨ex, hex⟩ : ∃ ex, exA S (nI f) t k (cn S 31) = ex := ⟨_, rfl⟩
    have ⟨PP, hPP⟩ : ∃ PP, PP = lawP S t (gA S 21 n) d k ex := ⟨_, rfl⟩
    have ⟨u, huu⟩ : ∃ u, u = (wr (gL S 20 n)).reverse := ⟨_, rfl⟩
    have hu : LW 12 u := by rw [huu]; exact LW.rev hwd.LW
    have hu0 : u.reverse = wr (gL S 20 n) := by rw [huu, List.reverse_reverse]
    have hform : lN (lv (prc S PP u 120000).reverse) = formA S (nI f) t d k := by
      unfold formA
      rw [ho]
      dsimp only
      rw [hex, ← hPP, ← huu]
    have loop : ∀ (m j : Nat) (hk : m + j = cn S 24), Z X M 0 0 36 [(0, .ref x), (1, .ref (B 4 f)), (2, .int t), (3, .int d), (4, .int k), (5, .ref (B 7 n)), (6, .int ex), (7, .long (lN (lv (prc S PP u (kyA S σ j)).reverse))), (9, .int (nI j))] [] := by
      intro m
      induction m using Nat.strongRecOn with
      | _ m ih =>
        intro j hk
        refine z_iload g dX10_formOn_36 rfl ?_
        refine z_aload_n g dX10_formOn_38 rfl ?_
        refine z_getR g fl_X10_16 (by assumption) (by decide) rfl (by assumption) dX10_formOn_39 ?_
        refine z_callL g _ _ cv_X10_67 rfl (c_alsize _ M (B 401 0) l1.1) (by assumption) rfl (by rw [hR]; decide) (by rw [hR]; decide) (by rw [hR]; decide) (Nat.le_of_ble_eq_true rfl) rfl dX10_formOn_42 (fun _ _ h => False.elim h) (fun r_42 M_42 h_42 => ?_)
        obtain ⟨rfl, rfl⟩ := h_42
        rw [n1]
        refine z_icmp_ge (tgt := 140) g dX10_formOn_45 (by decide) (fun c_45 => ?_) (fun c_45 => ?_)
        · rw [nI_leI (by omega) (by omega)] at c_45
          refine z_lload g dX10_formOn_140 rfl ?_
          exact z_lret g hrt (by decide) (by decide) dX10_formOn_142 ⟨by rw [show j = cn S 24 by omega, ← ky_all hL s1 s2 s3, hform], rfl⟩
        have hj9 : j < cn S 24 := by rw [nI_leI (by omega) (by omega)] at c_45; omega
        refine z_aload_n g dX10_formOn_48 rfl ?_
        refine z_getR g fl_X10_16 (by assumption) (by decide) rfl (by assumption) dX10_formOn_49 ?_
        refine z_iload g dX10_formOn_52 rfl ?_
        refine z_callL g _ _ cv_X10_310 rfl (c_getL _ M (B 401 0) j l1 (by rw [n1]; exact hj9)) (by assumption) rfl (by rw [hR]; decide) (by rw [hR]; decide) (by rw [hR]; decide) (Nat.le_of_ble_eq_true rfl) rfl dX10_formOn_54 (fun _ _ h => False.elim h) (fun r_54 M_54 h_54 => ?_)
        obtain ⟨rfl, rfl⟩ := h_54
        have kel : kd M (elt M (B 401 0) j) % 1000 = 6 := (l1.2.2 j (by rw [n1]; exact hj9)).2
        obtain ⟨-, -, w0, w1, w2, w3, w4, w5⟩ := s4 j hj9
        obtain ⟨⟨y26, y26b⟩, ⟨y27, y27b⟩, ⟨y28, y28b⟩, ⟨y29, y29b⟩, y0⟩ := hL.2.2 (σ j) (s1 j hj9)
        refine z_cast (b := 6) g cl_X10_172 rfl (by assumption) (by decide) dX10_formOn_57 ?_
        refine z_astore g dX10_formOn_60 (by rw [hN]; decide) ?_
        refine z_aload g dX10_formOn_62 rfl ?_
        refine z_getI g fl_X10_378 (by assumption) (by decide) rfl dX10_formOn_64 ?_
        rw [w0]
        refine z_iload_n g dX10_formOn_67 rfl ?_
        refine z_icmp_ne (tgt := 85) g dX10_formOn_68 (by decide) (fun c_68 => ?_) (fun c_68 => ?_)
        · refine z_iconst (v := 0) g dX10_formOn_85 (by decide) ?_
          refine z_istore g dX10_formOn_86 (by rw [hN]; decide) ?_
          refine z_iload g dX10_formOn_88 rfl ?_
          refine z_if_eq (tgt := 134) g dX10_formOn_90 (by decide) (fun _ => ?_) (fun c_90 => absurd c_90 (by decide))
          refine z_iinc1 g dX10_formOn_134 rfl (by rw [hN]; decide) ?_
          refine z_goto (tgt := 36) g dX10_formOn_137 (by decide) ?_
          have hn9 : ¬ PP (σ j) = true := fun z => by
            have z2 := ((lawP_iff2 hPP) (σ j)).mp z
            first | exact c_68 z2.1 | exact z2.2.1 c_78 | exact z2.2.2.1 c_103 | exact z2.2.2.2.1 c_112 | exact z2.2.2.2.2 c_122
          have hs := ih (m - 1) (by omega) (j + 1) (by omega)
          rw [show kyA S σ (j + 1) = lkey S (σ j) + 1 from rfl, ky_stay hL s1 s2 s3 hj9 hn9] at hs
          rw [nI_s]
          exact z_to hs ⟨rfl, rfl, rfl, rfl, rfl, rfl, rfl, rfl, rfl, trivial⟩
        · refine z_aload g dX10_formOn_71 rfl ?_
          refine z_getI g fl_X10_379 (by assumption) (by decide) rfl dX10_formOn_73 ?_
          rw [w2]
          refine z_iload g dX10_formOn_76 rfl ?_
          refine z_icmp_gt (tgt := 85) g dX10_formOn_78 (by decide) (fun c_78 => ?_) (fun c_78 => ?_)
          · refine z_iconst (v := 0) g dX10_formOn_85 (by decide) ?_
            refine z_istore g dX10_formOn_86 (by rw [hN]; decide) ?_
            refine z_iload g dX10_formOn_88 rfl ?_
            refine z_if_eq (tgt := 134) g dX10_formOn_90 (by decide) (fun _ => ?_) (fun c_90 => absurd c_90 (by decide))
            refine z_iinc1 g dX10_formOn_134 rfl (by rw [hN]; decide) ?_
            refine z_goto (tgt := 36) g dX10_formOn_137 (by decide) ?_
            have hn9 : ¬ PP (σ j) = true := fun z => by
              have z2 := ((lawP_iff2 hPP) (σ j)).mp z
              first | exact c_68 z2.1 | exact z2.2.1 c_78 | exact z2.2.2.1 c_103 | exact z2.2.2.2.1 c_112 | exact z2.2.2.2.2 c_122
            have hs := ih (m - 1) (by omega) (j + 1) (by omega)
            rw [show kyA S σ (j + 1) = lkey S (σ j) + 1 from rfl, ky_stay hL s1 s2 s3 hj9 hn9] at hs
            rw [nI_s]
            exact z_to hs ⟨rfl, rfl, rfl, rfl, rfl, rfl, rfl, rfl, rfl, trivial⟩
          · refine z_iconst (v := 1) g dX10_formOn_81 (by decide) ?_
            refine z_goto (tgt := 86) g dX10_formOn_82 (by decide) ?_
            refine z_istore g dX10_formOn_86 (by rw [hN]; decide) ?_
            refine z_iload g dX10_formOn_88 rfl ?_
            refine z_if_eq (tgt := 134) g dX10_formOn_90 (by decide) (fun c_90 => absurd c_90 (by decide)) (fun _ => ?_)
            refine z_aload g dX10_formOn_93 rfl ?_
            refine z_getI g fl_X10_369 (by assumption) (by decide) rfl dX10_formOn_95 ?_
            rw [w1]
            refine z_aload g dX10_formOn_98 rfl ?_
            refine z_getI g fl_X10_382 (by assumption) (by decide) rfl dX10_formOn_100 ?_
            rw [hnd]
            refine z_icmp_le (tgt := 134) g dX10_formOn_103 (by decide) (fun c_103 => ?_) (fun c_103 => ?_)
            · refine z_iinc1 g dX10_formOn_134 rfl (by rw [hN]; decide) ?_
              refine z_goto (tgt := 36) g dX10_formOn_137 (by decide) ?_
              have hn9 : ¬ PP (σ j) = true := fun z => by
                have z2 := ((lawP_iff2 hPP) (σ j)).mp z
                first | exact c_68 z2.1 | exact z2.2.1 c_78 | exact z2.2.2.1 c_103 | exact z2.2.2.2.1 c_112 | exact z2.2.2.2.2 c_122
              have hs := ih (m - 1) (by omega) (j + 1) (by omega)
              rw [show kyA S σ (j + 1) = lkey S (σ j) + 1 from rfl, ky_stay hL s1 s2 s3 hj9 hn9] at hs
              rw [nI_s]
              exact z_to hs ⟨rfl, rfl, rfl, rfl, rfl, rfl, rfl, rfl, rfl, trivial⟩
            · refine z_aload g dX10_formOn_106 rfl ?_
              refine z_getI g fl_X10_369 (by assumption) (by decide) rfl dX10_formOn_108 ?_
              rw [w1]
              refine z_iload_n g dX10_formOn_111 rfl ?_
              refine z_icmp_gt (tgt := 134) g dX10_formOn_112 (by decide) (fun c_112 => ?_) (fun c_112 => ?_)
              · refine z_iinc1 g dX10_formOn_134 rfl (by rw [hN]; decide) ?_
                refine z_goto (tgt := 36) g dX10_formOn_137 (by decide) ?_
                have hn9 : ¬ PP (σ j) = true := fun z => by
                  have z2 := ((lawP_iff2 hPP) (σ j)).mp z
                  first | exact c_68 z2.1 | exact z2.2.1 c_78 | exact z2.2.2.1 c_103 | exact z2.2.2.2.1 c_112 | exact z2.2.2.2.2 c_122
                have hs := ih (m - 1) (by omega) (j + 1) (by omega)
                rw [show kyA S σ (j + 1) = lkey S (σ j) + 1 from rfl, ky_stay hL s1 s2 s3 hj9 hn9] at hs
                rw [nI_s]
                exact z_to hs ⟨rfl, rfl, rfl, rfl, rfl, rfl, rfl, rfl, rfl, trivial⟩
              · refine z_aload g dX10_formOn_115 rfl ?_
                refine z_getI g fl_X10_369 (by assumption) (by decide) rfl dX10_formOn_117 ?_
                rw [w1]
                refine z_iload g dX10_formOn_120 rfl ?_
                refine z_icmp_ge (tgt := 134) g dX10_formOn_122 (by decide) (fun c_122 => ?_) (fun c_122 => ?_)
                · refine z_iinc1 g dX10_formOn_134 rfl (by rw [hN]; decide) ?_
                  refine z_goto (tgt := 36) g dX10_formOn_137 (by decide) ?_
                  have hn9 : ¬ PP (σ j) = true := fun z => by
                    have z2 := ((lawP_iff2 hPP) (σ j)).mp z
                    first | exact c_68 z2.1 | exact z2.2.1 c_78 | exact z2.2.2.1 c_103 | exact z2.2.2.2.1 c_112 | exact z2.2.2.2.2 c_122
                  have hs := ih (m - 1) (by omega) (j + 1) (by omega)
                  rw [show kyA S σ (j + 1) = lkey S (σ j) + 1 from rfl, ky_stay hL s1 s2 s3 hj9 hn9] at hs
                  rw [nI_s]
                  exact z_to hs ⟨rfl, rfl, rfl, rfl, rfl, rfl, rfl, rfl, rfl, trivial⟩
                · refine z_aload g dX10_formOn_125 rfl ?_
                  refine z_lload g dX10_formOn_127 rfl ?_
                  refine z_callV g _ _ cv_X10_383 (c_chg _ M (elt M (B 401 0) j) (prc S PP u (kyA S σ j)).reverse kel (LW.rev (prc_LW hL hu _)) (w3.trans y27) (w4.trans y28) (w5.trans y29) y27b y28b y29b) (by assumption) (by decide) rfl (by rw [hR]; decide) (by rw [hR]; decide) (by rw [hR]; decide) (Nat.le_of_ble_eq_true rfl) rfl dX10_formOn_129 (fun _ _ h => False.elim h) (fun r_129 M_129 h_129 => ?_)
                  obtain ⟨rfl, rfl⟩ := h_129
                  have hp9 : PP (σ j) = true := ((lawP_iff2 hPP) (σ j)).mpr ⟨c_68, c_78, c_103, c_112, c_122⟩
                  rw [chg_apl y0 (LW.rev (prc_LW hL hu _)), List.reverse_reverse, show apl (ca S 27 (σ j)) (ca S 28 (σ j)) (ca S 29 (σ j)) (prc S PP u (kyA S σ j)) = prc S PP u (kyA S σ (j + 1)) from (ky_next hL s1 s2 s3 hj9 hp9).symm]
                  refine z_lstore g dX10_formOn_132 (by rw [hN]; decide) ?_
                  refine z_iinc1 g dX10_formOn_134 rfl (by rw [hN]; decide) ?_
                  refine z_goto (tgt := 36) g dX10_formOn_137 (by decide) ?_
                  have hs := ih (m - 1) (by omega) (j + 1) (by omega)
                  rw [nI_s]
                  exact z_to hs ⟨rfl, rfl, rfl, rfl, rfl, rfl, rfl, rfl, rfl, trivial⟩
    refine z_astore g dX10_formOn_8 (by rw [hN]; decide) ?_
    refine z_aload g dX10_formOn_10 rfl ?_
    refine z_ifnonnull (tgt := 17) g dX10_formOn_12 (by decide) ?_
    refine z_aload_n g dX10_formOn_17 rfl ?_
    refine z_iload_n g dX10_formOn_18 rfl ?_
    refine z_iload g dX10_formOn_19 rfl ?_
    refine z_callV g _ _ cv_X10_374 (k_exA _ M hX0 hV f hf t k) (by assumption) (by decide) rfl (by rw [hR]; decide) (by rw [hR]; decide) (by rw [hR]; decide) (Nat.le_of_ble_eq_true rfl) rfl dX10_formOn_21 (fun _ _ h => False.elim h) (fun r_21 M_21 h_21 => ?_)
    obtain ⟨rfl, rfl⟩ := h_21
    rw [hex]
    refine z_istore g dX10_formOn_24 (by rw [hN]; decide) ?_
    refine z_aload g dX10_formOn_26 rfl ?_
    refine z_getL g fl_X10_377 k7 (by decide) rfl dX10_formOn_28 ?_
    rw [hnw, hnw2, ← hu0]
    refine z_lstore g dX10_formOn_31 (by rw [hN]; decide) ?_
    refine z_iconst (v := 0) g dX10_formOn_33 (by decide) ?_
    refine z_istore g dX10_formOn_34 (by rw [hN]; decide) ?_
    have hs := loop (cn S 24) 0 rfl
    exact z_to hs ⟨rfl, rfl, rfl, rfl, rfl, rfl, rfl, rfl, rfl, trivial⟩
