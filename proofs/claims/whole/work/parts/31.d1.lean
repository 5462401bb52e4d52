/-! ===== the model: what its helpers read (printed by gen/mod_d1.py) ===== -/
theorem m40 (a : Nat) : (40 : Int32) * nI a = nI (40 * a) := pk_mul 40 a
theorem m27 (a : Nat) : (27 : Int32) * nI a = nI (27 * a) := pk_mul 27 a
theorem m4 (a : Nat) : (4 : Int32) * nI a = nI (4 * a) := pk_mul 4 a
theorem nIm1 {n : Nat} (h : n < 2 ^ 31) : ¬ nI n = -1 := m1_ne h
set_option maxHeartbeats 4000000 in
set_option maxRecDepth 100000 in
theorem n_in (E : Ev) (M : Mm) (v a b : Int32) : CT E yX11_in cX11_in 3 (some .boolean) 1 0 0 [.int v, .int a, .int b] M (ansI (b2i (inB v a b)) M) noX := by
  refine CT.of rfl (Nat.le_of_ble_eq_true rfl) (fun X g hrt hno hE hN hR hI => ?_)
  subst hE
  refine z_iload_n g dX11_in_0 rfl ?_
  refine z_iload_n g dX11_in_1 rfl ?_
  refine z_icmp_lt (tgt := 14) g dX11_in_2 (by decide) (fun c_2 => ?_) (fun c_2 => ?_)
  · refine z_iconst (v := 0) g dX11_in_14 (by decide) ?_
    exact z_iret g hrt (by decide) (by decide) (by decide) dX11_in_15 ⟨by simp [inB, b2i, c_2], rfl⟩
  · refine z_iload_n g dX11_in_5 rfl ?_
    refine z_iload_n g dX11_in_6 rfl ?_
    refine z_icmp_gt (tgt := 14) g dX11_in_7 (by decide) (fun c_7 => ?_) (fun c_7 => ?_)
    · refine z_iconst (v := 0) g dX11_in_14 (by decide) ?_
      exact z_iret g hrt (by decide) (by decide) (by decide) dX11_in_15 ⟨by simp [inB, b2i, c_2, c_7], rfl⟩
    · refine z_iconst (v := 1) g dX11_in_10 (by decide) ?_
      refine z_goto (tgt := 15) g dX11_in_11 (by decide) ?_
      exact z_iret g hrt (by decide) (by decide) (by decide) dX11_in_15 ⟨by simp [inB, b2i, c_2, c_7], rfl⟩
set_option maxHeartbeats 4000000 in
set_option maxRecDepth 100000 in
theorem n_isF (E : Ev) {A : Nat → Nat} {m : Nat} {S : Ms} (M : Mm) (hM : RM A m S M) (f : Int32) : CT E yX11_isFeature cX11_isFeature 2 (some .boolean) 2 0 0 [.ref m, .int f] M (ansI (b2i (inB f 0 (gi S 2 - 1))) M) noX := by
  refine CT.of rfl (Nat.le_of_ble_eq_true rfl) (fun X g hrt hno hE hN hR hI => ?_)
  subst hE
  refine z_iload_n g dX11_isFeature_0 rfl ?_
  refine z_iconst (v := 0) g dX11_isFeature_1 (by decide) ?_
  refine z_aload_n g dX11_isFeature_2 rfl ?_
  refine z_getI g fl_X11_186 hM.k0 (by decide) rfl dX11_isFeature_3 ?_
  rw [hM.sc (k := 2) (by decide) (by decide)]
  refine z_iconst (v := 1) g dX11_isFeature_6 (by decide) ?_
  refine z_isub g dX11_isFeature_7 ?_
  refine z_callS g _ _ cs_X11_189 (n_in _ M f 0 (gi S 2 - 1)) rfl (by rw [hR]; decide) (by rw [hR]; decide) (by rw [hR]; decide) (Nat.le_of_ble_eq_true rfl) rfl dX11_isFeature_8 (fun _ _ h => False.elim h) (fun r_8 M_8 h_8 => ?_)
  obtain ⟨rfl, rfl⟩ := h_8
  exact z_iret g hrt (nar_b _) (by decide) (by decide) dX11_isFeature_11 ⟨rfl, rfl⟩
set_option maxHeartbeats 4000000 in
set_option maxRecDepth 100000 in
theorem n_isT (E : Ev) (M : Mm) (f : Int32) : CT E yX11_isTongue cX11_isTongue 1 (some .boolean) 2 0 0 [.int f] M (ansI (b2i (inB f 0 3)) M) noX := by
  refine CT.of rfl (Nat.le_of_ble_eq_true rfl) (fun X g hrt hno hE hN hR hI => ?_)
  subst hE
  refine z_iload_n g dX11_isTongue_0 rfl ?_
  refine z_iconst (v := 0) g dX11_isTongue_1 (by decide) ?_
  refine z_iconst (v := 3) g dX11_isTongue_2 (by decide) ?_
  refine z_callS g _ _ cs_X11_189 (n_in _ M f 0 3) rfl (by rw [hR]; decide) (by rw [hR]; decide) (by rw [hR]; decide) (Nat.le_of_ble_eq_true rfl) rfl dX11_isTongue_3 (fun _ _ h => False.elim h) (fun r_3 M_3 h_3 => ?_)
  obtain ⟨rfl, rfl⟩ := h_3
  exact z_iret g hrt (nar_b _) (by decide) (by decide) dX11_isTongue_6 ⟨rfl, rfl⟩
set_option maxHeartbeats 4000000 in
set_option maxRecDepth 100000 in
theorem n_isD (E : Ev) (M : Mm) (f : Int32) : CT E yX11_isDay cX11_isDay 1 (some .boolean) 2 0 0 [.int f] M (ansI (b2i (inB f 0 9999)) M) noX := by
  refine CT.of rfl (Nat.le_of_ble_eq_true rfl) (fun X g hrt hno hE hN hR hI => ?_)
  subst hE
  refine z_iload_n g dX11_isDay_0 rfl ?_
  refine z_iconst (v := 0) g dX11_isDay_1 (by decide) ?_
  refine z_sipush (v := 9999) g dX11_isDay_2 (by decide) ?_
  refine z_callS g _ _ cs_X11_189 (n_in _ M f 0 9999) rfl (by rw [hR]; decide) (by rw [hR]; decide) (by rw [hR]; decide) (Nat.le_of_ble_eq_true rfl) rfl dX11_isDay_5 (fun _ _ h => False.elim h) (fun r_5 M_5 h_5 => ?_)
  obtain ⟨rfl, rfl⟩ := h_5
  exact z_iret g hrt (nar_b _) (by decide) (by decide) dX11_isDay_8 ⟨rfl, rfl⟩
set_option maxHeartbeats 4000000 in
set_option maxRecDepth 100000 in
theorem n_isP (E : Ev) (M : Mm) (x y : Int32) : CT E yX11_isPlace cX11_isPlace 2 (some .boolean) 2 0 0 [.int x, .int y] M (ansI (b2i (inB x 0 99 && inB y 0 99)) M) noX := by
  refine CT.of rfl (Nat.le_of_ble_eq_true rfl) (fun X g hrt hno hE hN hR hI => ?_)
  subst hE
  refine z_iload_n g dX11_isPlace_0 rfl ?_
  refine z_iconst (v := 0) g dX11_isPlace_1 (by decide) ?_
  refine z_bipush (v := 99) g dX11_isPlace_2 (by decide) ?_
  refine z_callS g _ _ cs_X11_189 (n_in _ M x 0 99) rfl (by rw [hR]; decide) (by rw [hR]; decide) (by rw [hR]; decide) (Nat.le_of_ble_eq_true rfl) rfl dX11_isPlace_4 (fun _ _ h => False.elim h) (fun r_4 M_4 h_4 => ?_)
  obtain ⟨rfl, rfl⟩ := h_4
  refine z_if_eq (tgt := 24) g dX11_isPlace_7 (by decide) (fun c_7 => ?_) (fun c_7 => ?_)
  · refine z_iconst (v := 0) g dX11_isPlace_24 (by decide) ?_
    exact z_iret g hrt (by decide) (by decide) (by decide) dX11_isPlace_25 ⟨by first | (rw [b2i_0.mp c_7]; rfl) | (rw [b2i_n0.mp c_7, b2i_0.mp c_17]; rfl) | (rw [b2i_n0.mp c_7, b2i_n0.mp c_17]; rfl), rfl⟩
  · refine z_iload_n g dX11_isPlace_10 rfl ?_
    refine z_iconst (v := 0) g dX11_isPlace_11 (by decide) ?_
    refine z_bipush (v := 99) g dX11_isPlace_12 (by decide) ?_
    refine z_callS g _ _ cs_X11_189 (n_in _ M y 0 99) rfl (by rw [hR]; decide) (by rw [hR]; decide) (by rw [hR]; decide) (Nat.le_of_ble_eq_true rfl) rfl dX11_isPlace_14 (fun _ _ h => False.elim h) (fun r_14 M_14 h_14 => ?_)
    obtain ⟨rfl, rfl⟩ := h_14
    refine z_if_eq (tgt := 24) g dX11_isPlace_17 (by decide) (fun c_17 => ?_) (fun c_17 => ?_)
    · refine z_iconst (v := 0) g dX11_isPlace_24 (by decide) ?_
      exact z_iret g hrt (by decide) (by decide) (by decide) dX11_isPlace_25 ⟨by first | (rw [b2i_0.mp c_7]; rfl) | (rw [b2i_n0.mp c_7, b2i_0.mp c_17]; rfl) | (rw [b2i_n0.mp c_7, b2i_n0.mp c_17]; rfl), rfl⟩
    · refine z_iconst (v := 1) g dX11_isPlace_20 (by decide) ?_
      refine z_goto (tgt := 25) g dX11_isPlace_21 (by decide) ?_
      exact z_iret g hrt (by decide) (by decide) (by decide) dX11_isPlace_25 ⟨by first | (rw [b2i_0.mp c_7]; rfl) | (rw [b2i_n0.mp c_7, b2i_0.mp c_17]; rfl) | (rw [b2i_n0.mp c_7, b2i_n0.mp c_17]; rfl), rfl⟩
set_option maxHeartbeats 4000000 in
set_option maxRecDepth 100000 in
theorem n_thr (E : Ev) {A : Nat → Nat} {m : Nat} {S : Ms} (M : Mm) (hM : RM A m S M) : CT E yX11_thrown cX11_thrown 1 (some .int) 1 0 0 [.ref m] M (ansI (gi S 0) M) noX := by
  refine CT.of rfl (Nat.le_of_ble_eq_true rfl) (fun X g hrt hno hE hN hR hI => ?_)
  subst hE
  refine z_aload_n g dX11_thrown_0 rfl ?_
  refine z_getI g fl_X11_183 hM.k0 (by decide) rfl dX11_thrown_1 ?_
  rw [hM.sc (k := 0) (by decide) (by decide)]
  exact z_iret g hrt rfl (by decide) (by decide) dX11_thrown_4 ⟨rfl, rfl⟩
set_option maxHeartbeats 4000000 in
set_option maxRecDepth 100000 in
theorem n_hol (E : Ev) {A : Nat → Nat} {m : Nat} {S : Ms} (M : Mm) (hM : RM A m S M) (v : Int32) : CT E yX11_holds cX11_holds 2 (some .boolean) 1 0 0 [.ref m, .int v] M (ansI (b2i (decide (v = 0))) (sI M m 0 v)) noX := by
  refine CT.of rfl (Nat.le_of_ble_eq_true rfl) (fun X g hrt hno hE hN hR hI => ?_)
  subst hE
  refine z_aload_n g dX11_holds_0 rfl ?_
  refine z_iload_n g dX11_holds_1 rfl ?_
  refine z_putI g fp_X11_183 hM.k0 (by decide) rfl (fun h => nomatch h) dX11_holds_2 ?_
  refine z_iload_n g dX11_holds_5 rfl ?_
  refine z_if_ne (tgt := 13) g dX11_holds_6 (by decide) (fun c_6 => ?_) (fun c_6 => ?_)
  · refine z_iconst (v := 0) g dX11_holds_13 (by decide) ?_
    exact z_iret g hrt (by decide) (by decide) (by decide) dX11_holds_14 ⟨by simp [b2i, c_6], rfl⟩
  · refine z_iconst (v := 1) g dX11_holds_9 (by decide) ?_
    refine z_goto (tgt := 14) g dX11_holds_10 (by decide) ?_
    exact z_iret g hrt (by decide) (by decide) (by decide) dX11_holds_14 ⟨by simp [b2i, c_6], rfl⟩
set_option maxHeartbeats 4000000 in
set_option maxRecDepth 100000 in
theorem n_enA (E : Ev) {A : Nat → Nat} {m : Nat} {S : Ms} (M : Mm) (hM : RM A m S M) (f : Nat) (hf : f < 24) (d k : Int32) : CT E yX11_hasEnded cX11_hasEnded 4 (some .boolean) 1 0 0 [.ref m, .int (nI f), .int d, .int k] M (ansI (b2i (enA S f d k)) M) noX := by
  refine CT.of rfl (Nat.le_of_ble_eq_true rfl) (fun X g hrt hno hE hN hR hI => ?_)
  subst hE
  refine z_aload_n g dX11_hasEnded_0 rfl ?_
  refine z_getR g fl_X11_43 hM.k0 (by decide) rfl (hM.ref (k := 14) (by decide)) dX11_hasEnded_1 ?_
  refine z_iload_n g dX11_hasEnded_4 rfl ?_
  refine z_ialdk g (hM.kA1 (k := 14) (by decide)) (by decide) (vp_in_nI (by rw [hM.lnI (k := 14) (by decide)]; show _ < 24; omega) (by rw [hM.lnI (k := 14) (by decide)]; decide)) dX11_hasEnded_5 ?_
  rw [nI_clamp (by omega), hM.row (k := 14) (by decide) (by decide)]
  refine z_iconst (v := (-1)) g dX11_hasEnded_6 (by decide) ?_
  refine z_icmp_eq (tgt := 34) g dX11_hasEnded_7 (by decide) (fun c_7 => ?_) (fun c_7 => ?_)
  · refine z_iconst (v := 0) g dX11_hasEnded_34 (by decide) ?_
    exact z_iret g hrt (by decide) (by decide) (by decide) dX11_hasEnded_35 ⟨by simp [enA, b2i, c_7], rfl⟩
  · refine z_aload_n g dX11_hasEnded_10 rfl ?_
    refine z_getR g fl_X11_49 hM.k0 (by decide) rfl (hM.ref (k := 16) (by decide)) dX11_hasEnded_11 ?_
    refine z_iload_n g dX11_hasEnded_14 rfl ?_
    refine z_ialdk g (hM.kA1 (k := 16) (by decide)) (by decide) (vp_in_nI (by rw [hM.lnI (k := 16) (by decide)]; show _ < 24; omega) (by rw [hM.lnI (k := 16) (by decide)]; decide)) dX11_hasEnded_15 ?_
    rw [nI_clamp (by omega), hM.row (k := 16) (by decide) (by decide)]
    refine z_iload_n g dX11_hasEnded_16 rfl ?_
    refine z_icmp_gt (tgt := 34) g dX11_hasEnded_17 (by decide) (fun c_17 => ?_) (fun c_17 => ?_)
    · refine z_iconst (v := 0) g dX11_hasEnded_34 (by decide) ?_
      exact z_iret g hrt (by decide) (by decide) (by decide) dX11_hasEnded_35 ⟨by simp [enA, b2i, c_7, c_17], rfl⟩
    · refine z_aload_n g dX11_hasEnded_20 rfl ?_
      refine z_getR g fl_X11_43 hM.k0 (by decide) rfl (hM.ref (k := 14) (by decide)) dX11_hasEnded_21 ?_
      refine z_iload_n g dX11_hasEnded_24 rfl ?_
      refine z_ialdk g (hM.kA1 (k := 14) (by decide)) (by decide) (vp_in_nI (by rw [hM.lnI (k := 14) (by decide)]; show _ < 24; omega) (by rw [hM.lnI (k := 14) (by decide)]; decide)) dX11_hasEnded_25 ?_
      rw [nI_clamp (by omega), hM.row (k := 14) (by decide) (by decide)]
      refine z_iload_n g dX11_hasEnded_26 rfl ?_
      refine z_icmp_gt (tgt := 34) g dX11_hasEnded_27 (by decide) (fun c_27 => ?_) (fun c_27 => ?_)
      · refine z_iconst (v := 0) g dX11_hasEnded_34 (by decide) ?_
        exact z_iret g hrt (by decide) (by decide) (by decide) dX11_hasEnded_35 ⟨by simp [enA, b2i, c_7, c_17, c_27], rfl⟩
      · refine z_iconst (v := 1) g dX11_hasEnded_30 (by decide) ?_
        refine z_goto (tgt := 35) g dX11_hasEnded_31 (by decide) ?_
        exact z_iret g hrt (by decide) (by decide) (by decide) dX11_hasEnded_35 ⟨by simp [enA, b2i, c_7, c_17, c_27], rfl⟩
set_option maxHeartbeats 4000000 in
set_option maxRecDepth 100000 in
theorem n_thA (E : Ev) {A : Nat → Nat} {m : Nat} {S : Ms} (M : Mm) (hM : RM A m S M) (f : Nat) (hf : f < 24) (d k : Int32) : CT E yX11_isThere cX11_isThere 4 (some .boolean) 2 0 0 [.ref m, .int (nI f), .int d, .int k] M (ansI (b2i (thA S f d k)) M) noX := by
  refine CT.of rfl (Nat.le_of_ble_eq_true rfl) (fun X g hrt hno hE hN hR hI => ?_)
  subst hE
  refine z_aload_n g dX11_isThere_0 rfl ?_
  refine z_getR g fl_X11_13 hM.k0 (by decide) rfl (hM.ref (k := 4) (by decide)) dX11_isThere_1 ?_
  refine z_iload_n g dX11_isThere_4 rfl ?_
  refine z_ialdk g (hM.kA1 (k := 4) (by decide)) (by decide) (vp_in_nI (by rw [hM.lnI (k := 4) (by decide)]; show _ < 24; omega) (by rw [hM.lnI (k := 4) (by decide)]; decide)) dX11_isThere_5 ?_
  rw [nI_clamp (by omega), hM.row (k := 4) (by decide) (by decide)]
  refine z_iload_n g dX11_isThere_6 rfl ?_
  refine z_icmp_gt (tgt := 34) g dX11_isThere_7 (by decide) (fun c_7 => ?_) (fun c_7 => ?_)
  · refine z_iconst (v := 0) g dX11_isThere_34 (by decide) ?_
    exact z_iret g hrt (by decide) (by decide) (by decide) dX11_isThere_35 ⟨by first | (have h9 := b2i_0.mp c_27; simp [thA, b2i, c_7, c_17, h9]; done) | (have h9 := b2i_n0.mp c_27; simp [thA, b2i, c_7, c_17, h9]; done) | (simp [thA, b2i, c_7, c_17]; done) | (simp [thA, b2i, c_7]; done), rfl⟩
  · refine z_aload_n g dX11_isThere_10 rfl ?_
    refine z_getR g fl_X11_13 hM.k0 (by decide) rfl (hM.ref (k := 4) (by decide)) dX11_isThere_11 ?_
    refine z_iload_n g dX11_isThere_14 rfl ?_
    refine z_ialdk g (hM.kA1 (k := 4) (by decide)) (by decide) (vp_in_nI (by rw [hM.lnI (k := 4) (by decide)]; show _ < 24; omega) (by rw [hM.lnI (k := 4) (by decide)]; decide)) dX11_isThere_15 ?_
    rw [nI_clamp (by omega), hM.row (k := 4) (by decide) (by decide)]
    refine z_iload_n g dX11_isThere_16 rfl ?_
    refine z_icmp_gt (tgt := 34) g dX11_isThere_17 (by decide) (fun c_17 => ?_) (fun c_17 => ?_)
    · refine z_iconst (v := 0) g dX11_isThere_34 (by decide) ?_
      exact z_iret g hrt (by decide) (by decide) (by decide) dX11_isThere_35 ⟨by first | (have h9 := b2i_0.mp c_27; simp [thA, b2i, c_7, c_17, h9]; done) | (have h9 := b2i_n0.mp c_27; simp [thA, b2i, c_7, c_17, h9]; done) | (simp [thA, b2i, c_7, c_17]; done) | (simp [thA, b2i, c_7]; done), rfl⟩
    · refine z_aload_n g dX11_isThere_20 rfl ?_
      refine z_iload_n g dX11_isThere_21 rfl ?_
      refine z_iload_n g dX11_isThere_22 rfl ?_
      refine z_iload_n g dX11_isThere_23 rfl ?_
      refine z_callV g _ _ cv_X11_198 (n_enA _ M hM f hf d k) hM.k0 (by decide) rfl (by rw [hR]; decide) (by rw [hR]; decide) (by rw [hR]; decide) (Nat.le_of_ble_eq_true rfl) rfl dX11_isThere_24 (fun _ _ h => False.elim h) (fun r_24 M_24 h_24 => ?_)
      obtain ⟨rfl, rfl⟩ := h_24
      refine z_if_ne (tgt := 34) g dX11_isThere_27 (by decide) (fun c_27 => ?_) (fun c_27 => ?_)
      · refine z_iconst (v := 0) g dX11_isThere_34 (by decide) ?_
        exact z_iret g hrt (by decide) (by decide) (by decide) dX11_isThere_35 ⟨by first | (have h9 := b2i_0.mp c_27; simp [thA, b2i, c_7, c_17, h9]; done) | (have h9 := b2i_n0.mp c_27; simp [thA, b2i, c_7, c_17, h9]; done) | (simp [thA, b2i, c_7, c_17]; done) | (simp [thA, b2i, c_7]; done), rfl⟩
      · refine z_iconst (v := 1) g dX11_isThere_30 (by decide) ?_
        refine z_goto (tgt := 35) g dX11_isThere_31 (by decide) ?_
        exact z_iret g hrt (by decide) (by decide) (by decide) dX11_isThere_35 ⟨by first | (have h9 := b2i_0.mp c_27; simp [thA, b2i, c_7, c_17, h9]; done) | (have h9 := b2i_n0.mp c_27; simp [thA, b2i, c_7, c_17, h9]; done) | (simp [thA, b2i, c_7, c_17]; done) | (simp [thA, b2i, c_7]; done), rfl⟩
set_option maxHeartbeats 4000000 in
set_option maxRecDepth 100000 in
theorem n_plA (E : Ev) {A : Nat → Nat} {m : Nat} {S : Ms} (M : Mm) (hM : RM A m S M) (f : Nat) (hf : f < 24) (hmq : gA S 5 f = nI (ca S 5 f)) (hmn : ca S 5 f ≤ 40) (d kn : Int32) : CT E yX11_placeAt cX11_placeAt 7 (some .int) 1 0 0 [.ref m, .int (nI f), .int d, .int kn] M (ansI (o2i (40 * f) (plA S f d kn)) M) noX := by
  refine CT.of rfl (Nat.le_of_ble_eq_true rfl) (fun X g hrt hno hE hN hR hI => ?_)
  subst hE
  have hfc : ca S 5 f ≤ 40 := hmn
  have hmany : gA S 5 f = nI (ca S 5 f) := hmq
  have loop : ∀ (k j : Nat) (hk : k + j = ca S 5 f), Z X M 0 0 9 [(0, .ref m), (1, .int (nI f)), (2, .int d), (3, .int kn), (4, .int (o2i (40 * f) ((bst (pP (gA S 8) (gA S 9) (40 * f) d kn) (fun n => gA S 8 (40 * f + n)) j)))), (5, .int (nI (40 * f + j)))] [] := by
    intro k
    induction k using Nat.strongRecOn with
    | _ k ih =>
      intro j hk
      rcases ho : (bst (pP (gA S 8) (gA S 9) (40 * f) d kn) (fun n => gA S 8 (40 * f + n)) j) with _ | q
      · show Z X M 0 0 9 [(0, .ref m), (1, .int (nI f)), (2, .int d), (3, .int kn), (4, .int (-1)), (5, .int (nI (40 * f + j)))] []
        refine z_iload g dX11_placeAt_9 rfl ?_
        refine z_bipush (v := 40) g dX11_placeAt_11 (by decide) ?_
        refine z_iload_n g dX11_placeAt_13 rfl ?_
        refine z_imul g dX11_placeAt_14 ?_
        rw [m40]
        refine z_aload_n g dX11_placeAt_15 rfl ?_
        refine z_getR g fl_X11_16 hM.k0 (by decide) rfl (hM.ref (k := 5) (by decide)) dX11_placeAt_16 ?_
        refine z_iload_n g dX11_placeAt_19 rfl ?_
        refine z_ialdk g (hM.kA1 (k := 5) (by decide)) (by decide) (vp_in_nI (by rw [hM.lnI (k := 5) (by decide)]; show _ < 24; omega) (by rw [hM.lnI (k := 5) (by decide)]; decide)) dX11_placeAt_20 ?_
        rw [nI_clamp (by omega), hM.row (k := 5) (by decide) (by decide)]
        rw [hmany]
        refine z_iadd g dX11_placeAt_21 ?_
        rw [nI_add]
        refine z_icmp_ge (tgt := 97) g dX11_placeAt_22 (by decide) (fun c_22 => ?_) (fun c_22 => ?_)
        · rw [nI_leI (by omega) (by omega)] at c_22
          have hjn : j = ca S 5 f := by omega
          have hp : plA S f d kn = _ := (show plA S f d kn = (bst (pP (gA S 8) (gA S 9) (40 * f) d kn) (fun n => gA S 8 (40 * f + n)) j) by rw [plA, ← hjn]).trans ho
          rw [hp] at hrt
          refine z_iload g dX11_placeAt_97 rfl ?_
          exact z_iret g hrt rfl (by decide) (by decide) dX11_placeAt_99 ⟨rfl, rfl⟩
        have h22 : j < ca S 5 f := by rw [nI_leI (by omega) (by omega)] at c_22; omega
        refine z_aload_n g dX11_placeAt_25 rfl ?_
        refine z_getR g fl_X11_25 hM.k0 (by decide) rfl (hM.ref (k := 8) (by decide)) dX11_placeAt_26 ?_
        refine z_iload g dX11_placeAt_29 rfl ?_
        refine z_ialdk g (hM.kA1 (k := 8) (by decide)) (by decide) (vp_in_nI (by rw [hM.lnI (k := 8) (by decide)]; show _ < 960; omega) (by rw [hM.lnI (k := 8) (by decide)]; decide)) dX11_placeAt_31 ?_
        rw [nI_clamp (by omega), hM.row (k := 8) (by decide) (by decide)]
        refine z_iload_n g dX11_placeAt_32 rfl ?_
        refine z_icmp_gt (tgt := 51) g dX11_placeAt_33 (by decide) (fun c_33 => ?_) (fun c_33 => ?_)
        · refine z_iconst (v := 0) g dX11_placeAt_51 (by decide) ?_
          refine z_istore g dX11_placeAt_52 (by rw [hN]; decide) ?_
          refine z_iload g dX11_placeAt_54 rfl ?_
          refine z_if_eq (tgt := 87) g dX11_placeAt_56 (by decide) (fun _ => ?_) (fun c_56 => absurd (by decide) c_56)
          refine z_iload g dX11_placeAt_87 rfl ?_
          refine z_istore g dX11_placeAt_89 (by rw [hN]; decide) ?_
          refine z_iinc1 g dX11_placeAt_91 rfl (by rw [hN]; decide) ?_
          refine z_goto (tgt := 9) g dX11_placeAt_94 (by decide) ?_
          have hs := ih (k - 1) (by omega) (j + 1) (by omega)
          rw [nI_s]
          first
            | (rw [show (bst (pP (gA S 8) (gA S 9) (40 * f) d kn) (fun n => gA S 8 (40 * f + n)) (j + 1)) = some j from if_pos ⟨by simp only [pP, decide_eq_false c_33, decide_eq_false c_44]; rfl, by rw [ho]; first | rfl | (show (!decide _) = true; rw [decide_eq_false c_79]; rfl)⟩] at hs
               exact z_to hs ⟨rfl, rfl, rfl, rfl, rfl, rfl, trivial⟩)
            | (rw [show (bst (pP (gA S 8) (gA S 9) (40 * f) d kn) (fun n => gA S 8 (40 * f + n)) (j + 1)) = (bst (pP (gA S 8) (gA S 9) (40 * f) d kn) (fun n => gA S 8 (40 * f + n)) j) from if_neg (fun z => by first | (have z1 := z.1; simp only [pP, decide_eq_true c_33] at z1; cases z1) | (have z1 := z.1; simp only [pP, decide_eq_true c_44, Bool.not_true, Bool.and_false] at z1; cases z1) | (have z9 := z.2; rw [ho] at z9; change (!decide _) = true at z9; rw [decide_eq_true c_79] at z9; cases z9)), ho] at hs
               exact z_to hs ⟨rfl, rfl, rfl, rfl, rfl, rfl, trivial⟩)
        · refine z_aload_n g dX11_placeAt_36 rfl ?_
          refine z_getR g fl_X11_28 hM.k0 (by decide) rfl (hM.ref (k := 9) (by decide)) dX11_placeAt_37 ?_
          refine z_iload g dX11_placeAt_40 rfl ?_
          refine z_ialdk g (hM.kA1 (k := 9) (by decide)) (by decide) (vp_in_nI (by rw [hM.lnI (k := 9) (by decide)]; show _ < 960; omega) (by rw [hM.lnI (k := 9) (by decide)]; decide)) dX11_placeAt_42 ?_
          rw [nI_clamp (by omega), hM.row (k := 9) (by decide) (by decide)]
          refine z_iload_n g dX11_placeAt_43 rfl ?_
          refine z_icmp_gt (tgt := 51) g dX11_placeAt_44 (by decide) (fun c_44 => ?_) (fun c_44 => ?_)
          · refine z_iconst (v := 0) g dX11_placeAt_51 (by decide) ?_
            refine z_istore g dX11_placeAt_52 (by rw [hN]; decide) ?_
            refine z_iload g dX11_placeAt_54 rfl ?_
            refine z_if_eq (tgt := 87) g dX11_placeAt_56 (by decide) (fun _ => ?_) (fun c_56 => absurd (by decide) c_56)
            refine z_iload g dX11_placeAt_87 rfl ?_
            refine z_istore g dX11_placeAt_89 (by rw [hN]; decide) ?_
            refine z_iinc1 g dX11_placeAt_91 rfl (by rw [hN]; decide) ?_
            refine z_goto (tgt := 9) g dX11_placeAt_94 (by decide) ?_
            have hs := ih (k - 1) (by omega) (j + 1) (by omega)
            rw [nI_s]
            first
              | (rw [show (bst (pP (gA S 8) (gA S 9) (40 * f) d kn) (fun n => gA S 8 (40 * f + n)) (j + 1)) = some j from if_pos ⟨by simp only [pP, decide_eq_false c_33, decide_eq_false c_44]; rfl, by rw [ho]; first | rfl | (show (!decide _) = true; rw [decide_eq_false c_79]; rfl)⟩] at hs
                 exact z_to hs ⟨rfl, rfl, rfl, rfl, rfl, rfl, trivial⟩)
              | (rw [show (bst (pP (gA S 8) (gA S 9) (40 * f) d kn) (fun n => gA S 8 (40 * f + n)) (j + 1)) = (bst (pP (gA S 8) (gA S 9) (40 * f) d kn) (fun n => gA S 8 (40 * f + n)) j) from if_neg (fun z => by first | (have z1 := z.1; simp only [pP, decide_eq_true c_33] at z1; cases z1) | (have z1 := z.1; simp only [pP, decide_eq_true c_44, Bool.not_true, Bool.and_false] at z1; cases z1) | (have z9 := z.2; rw [ho] at z9; change (!decide _) = true at z9; rw [decide_eq_true c_79] at z9; cases z9)), ho] at hs
                 exact z_to hs ⟨rfl, rfl, rfl, rfl, rfl, rfl, trivial⟩)
          · refine z_iconst (v := 1) g dX11_placeAt_47 (by decide) ?_
            refine z_goto (tgt := 52) g dX11_placeAt_48 (by decide) ?_
            refine z_istore g dX11_placeAt_52 (by rw [hN]; decide) ?_
            refine z_iload g dX11_placeAt_54 rfl ?_
            refine z_if_eq (tgt := 87) g dX11_placeAt_56 (by decide) (fun c_56 => absurd c_56 (by decide)) (fun _ => ?_)
            refine z_iload g dX11_placeAt_59 rfl ?_
            refine z_iconst (v := (-1)) g dX11_placeAt_61 (by decide) ?_
            refine z_icmp_eq (tgt := 82) g dX11_placeAt_62 (by decide) (fun c_62 => ?_) (fun c_62 => (by exact absurd rfl c_62))
            refine z_iload g dX11_placeAt_82 rfl ?_
            refine z_goto (tgt := 89) g dX11_placeAt_84 (by decide) ?_
            refine z_istore g dX11_placeAt_89 (by rw [hN]; decide) ?_
            refine z_iinc1 g dX11_placeAt_91 rfl (by rw [hN]; decide) ?_
            refine z_goto (tgt := 9) g dX11_placeAt_94 (by decide) ?_
            have hs := ih (k - 1) (by omega) (j + 1) (by omega)
            rw [nI_s]
            first
              | (rw [show (bst (pP (gA S 8) (gA S 9) (40 * f) d kn) (fun n => gA S 8 (40 * f + n)) (j + 1)) = some j from if_pos ⟨by simp only [pP, decide_eq_false c_33, decide_eq_false c_44]; rfl, by rw [ho]; first | rfl | (show (!decide _) = true; rw [decide_eq_false c_79]; rfl)⟩] at hs
                 exact z_to hs ⟨rfl, rfl, rfl, rfl, rfl, rfl, trivial⟩)
              | (rw [show (bst (pP (gA S 8) (gA S 9) (40 * f) d kn) (fun n => gA S 8 (40 * f + n)) (j + 1)) = (bst (pP (gA S 8) (gA S 9) (40 * f) d kn) (fun n => gA S 8 (40 * f + n)) j) from if_neg (fun z => by first | (have z1 := z.1; simp only [pP, decide_eq_true c_33] at z1; cases z1) | (have z1 := z.1; simp only [pP, decide_eq_true c_44, Bool.not_true, Bool.and_false] at z1; cases z1) | (have z9 := z.2; rw [ho] at z9; change (!decide _) = true at z9; rw [decide_eq_true c_79] at z9; cases z9)), ho] at hs
                 exact z_to hs ⟨rfl, rfl, rfl, rfl, rfl, rfl, trivial⟩)
      · show Z X M 0 0 9 [(0, .ref m), (1, .int (nI f)), (2, .int d), (3, .int kn), (4, .int (nI (40 * f + q))), (5, .int (nI (40 * f + j)))] []
        have hq := (bst_mem ho).1
        refine z_iload g dX11_placeAt_9 rfl ?_
        refine z_bipush (v := 40) g dX11_placeAt_11 (by decide) ?_
        refine z_iload_n g dX11_placeAt_13 rfl ?_
        refine z_imul g dX11_placeAt_14 ?_
        rw [m40]
        refine z_aload_n g dX11_placeAt_15 rfl ?_
        refine z_getR g fl_X11_16 hM.k0 (by decide) rfl (hM.ref (k := 5) (by decide)) dX11_placeAt_16 ?_
        refine z_iload_n g dX11_placeAt_19 rfl ?_
        refine z_ialdk g (hM.kA1 (k := 5) (by decide)) (by decide) (vp_in_nI (by rw [hM.lnI (k := 5) (by decide)]; show _ < 24; omega) (by rw [hM.lnI (k := 5) (by decide)]; decide)) dX11_placeAt_20 ?_
        rw [nI_clamp (by omega), hM.row (k := 5) (by decide) (by decide)]
        rw [hmany]
        refine z_iadd g dX11_placeAt_21 ?_
        rw [nI_add]
        refine z_icmp_ge (tgt := 97) g dX11_placeAt_22 (by decide) (fun c_22 => ?_) (fun c_22 => ?_)
        · rw [nI_leI (by omega) (by omega)] at c_22
          have hjn : j = ca S 5 f := by omega
          have hp : plA S f d kn = _ := (show plA S f d kn = (bst (pP (gA S 8) (gA S 9) (40 * f) d kn) (fun n => gA S 8 (40 * f + n)) j) by rw [plA, ← hjn]).trans ho
          rw [hp] at hrt
          refine z_iload g dX11_placeAt_97 rfl ?_
          exact z_iret g hrt rfl (by decide) (by decide) dX11_placeAt_99 ⟨rfl, rfl⟩
        have h22 : j < ca S 5 f := by rw [nI_leI (by omega) (by omega)] at c_22; omega
        refine z_aload_n g dX11_placeAt_25 rfl ?_
        refine z_getR g fl_X11_25 hM.k0 (by decide) rfl (hM.ref (k := 8) (by decide)) dX11_placeAt_26 ?_
        refine z_iload g dX11_placeAt_29 rfl ?_
        refine z_ialdk g (hM.kA1 (k := 8) (by decide)) (by decide) (vp_in_nI (by rw [hM.lnI (k := 8) (by decide)]; show _ < 960; omega) (by rw [hM.lnI (k := 8) (by decide)]; decide)) dX11_placeAt_31 ?_
        rw [nI_clamp (by omega), hM.row (k := 8) (by decide) (by decide)]
        refine z_iload_n g dX11_placeAt_32 rfl ?_
        refine z_icmp_gt (tgt := 51) g dX11_placeAt_33 (by decide) (fun c_33 => ?_) (fun c_33 => ?_)
        · refine z_iconst (v := 0) g dX11_placeAt_51 (by decide) ?_
          refine z_istore g dX11_placeAt_52 (by rw [hN]; decide) ?_
          refine z_iload g dX11_placeAt_54 rfl ?_
          refine z_if_eq (tgt := 87) g dX11_placeAt_56 (by decide) (fun _ => ?_) (fun c_56 => absurd (by decide) c_56)
          refine z_iload g dX11_placeAt_87 rfl ?_
          refine z_istore g dX11_placeAt_89 (by rw [hN]; decide) ?_
          refine z_iinc1 g dX11_placeAt_91 rfl (by rw [hN]; decide) ?_
          refine z_goto (tgt := 9) g dX11_placeAt_94 (by decide) ?_
          have hs := ih (k - 1) (by omega) (j + 1) (by omega)
          rw [nI_s]
          first
            | (rw [show (bst (pP (gA S 8) (gA S 9) (40 * f) d kn) (fun n => gA S 8 (40 * f + n)) (j + 1)) = some j from if_pos ⟨by simp only [pP, decide_eq_false c_33, decide_eq_false c_44]; rfl, by rw [ho]; first | rfl | (show (!decide _) = true; rw [decide_eq_false c_79]; rfl)⟩] at hs
               exact z_to hs ⟨rfl, rfl, rfl, rfl, rfl, rfl, trivial⟩)
            | (rw [show (bst (pP (gA S 8) (gA S 9) (40 * f) d kn) (fun n => gA S 8 (40 * f + n)) (j + 1)) = (bst (pP (gA S 8) (gA S 9) (40 * f) d kn) (fun n => gA S 8 (40 * f + n)) j) from if_neg (fun z => by first | (have z1 := z.1; simp only [pP, decide_eq_true c_33] at z1; cases z1) | (have z1 := z.1; simp only [pP, decide_eq_true c_44, Bool.not_true, Bool.and_false] at z1; cases z1) | (have z9 := z.2; rw [ho] at z9; change (!decide _) = true at z9; rw [decide_eq_true c_79] at z9; cases z9)), ho] at hs
               exact z_to hs ⟨rfl, rfl, rfl, rfl, rfl, rfl, trivial⟩)
        · refine z_aload_n g dX11_placeAt_36 rfl ?_
          refine z_getR g fl_X11_28 hM.k0 (by decide) rfl (hM.ref (k := 9) (by decide)) dX11_placeAt_37 ?_
          refine z_iload g dX11_placeAt_40 rfl ?_
          refine z_ialdk g (hM.kA1 (k := 9) (by decide)) (by decide) (vp_in_nI (by rw [hM.lnI (k := 9) (by decide)]; show _ < 960; omega) (by rw [hM.lnI (k := 9) (by decide)]; decide)) dX11_placeAt_42 ?_
          rw [nI_clamp (by omega), hM.row (k := 9) (by decide) (by decide)]
          refine z_iload_n g dX11_placeAt_43 rfl ?_
          refine z_icmp_gt (tgt := 51) g dX11_placeAt_44 (by decide) (fun c_44 => ?_) (fun c_44 => ?_)
          · refine z_iconst (v := 0) g dX11_placeAt_51 (by decide) ?_
            refine z_istore g dX11_placeAt_52 (by rw [hN]; decide) ?_
            refine z_iload g dX11_placeAt_54 rfl ?_
            refine z_if_eq (tgt := 87) g dX11_placeAt_56 (by decide) (fun _ => ?_) (fun c_56 => absurd (by decide) c_56)
            refine z_iload g dX11_placeAt_87 rfl ?_
            refine z_istore g dX11_placeAt_89 (by rw [hN]; decide) ?_
            refine z_iinc1 g dX11_placeAt_91 rfl (by rw [hN]; decide) ?_
            refine z_goto (tgt := 9) g dX11_placeAt_94 (by decide) ?_
            have hs := ih (k - 1) (by omega) (j + 1) (by omega)
            rw [nI_s]
            first
              | (rw [show (bst (pP (gA S 8) (gA S 9) (40 * f) d kn) (fun n => gA S 8 (40 * f + n)) (j + 1)) = some j from if_pos ⟨by simp only [pP, decide_eq_false c_33, decide_eq_false c_44]; rfl, by rw [ho]; first | rfl | (show (!decide _) = true; rw [decide_eq_false c_79]; rfl)⟩] at hs
                 exact z_to hs ⟨rfl, rfl, rfl, rfl, rfl, rfl, trivial⟩)
              | (rw [show (bst (pP (gA S 8) (gA S 9) (40 * f) d kn) (fun n => gA S 8 (40 * f + n)) (j + 1)) = (bst (pP (gA S 8) (gA S 9) (40 * f) d kn) (fun n => gA S 8 (40 * f + n)) j) from if_neg (fun z => by first | (have z1 := z.1; simp only [pP, decide_eq_true c_33] at z1; cases z1) | (have z1 := z.1; simp only [pP, decide_eq_true c_44, Bool.not_true, Bool.and_false] at z1; cases z1) | (have z9 := z.2; rw [ho] at z9; change (!decide _) = true at z9; rw [decide_eq_true c_79] at z9; cases z9)), ho] at hs
                 exact z_to hs ⟨rfl, rfl, rfl, rfl, rfl, rfl, trivial⟩)
          · refine z_iconst (v := 1) g dX11_placeAt_47 (by decide) ?_
            refine z_goto (tgt := 52) g dX11_placeAt_48 (by decide) ?_
            refine z_istore g dX11_placeAt_52 (by rw [hN]; decide) ?_
            refine z_iload g dX11_placeAt_54 rfl ?_
            refine z_if_eq (tgt := 87) g dX11_placeAt_56 (by decide) (fun c_56 => absurd c_56 (by decide)) (fun _ => ?_)
            refine z_iload g dX11_placeAt_59 rfl ?_
            refine z_iconst (v := (-1)) g dX11_placeAt_61 (by decide) ?_
            refine z_icmp_eq (tgt := 82) g dX11_placeAt_62 (by decide) (fun c_62 => (by exact absurd c_62 (m1_ne (by omega)))) (fun c_62 => ?_)
            refine z_aload_n g dX11_placeAt_65 rfl ?_
            refine z_getR g fl_X11_25 hM.k0 (by decide) rfl (hM.ref (k := 8) (by decide)) dX11_placeAt_66 ?_
            refine z_iload g dX11_placeAt_69 rfl ?_
            refine z_ialdk g (hM.kA1 (k := 8) (by decide)) (by decide) (vp_in_nI (by rw [hM.lnI (k := 8) (by decide)]; show _ < 960; omega) (by rw [hM.lnI (k := 8) (by decide)]; decide)) dX11_placeAt_71 ?_
            rw [nI_clamp (by omega), hM.row (k := 8) (by decide) (by decide)]
            refine z_aload_n g dX11_placeAt_72 rfl ?_
            refine z_getR g fl_X11_25 hM.k0 (by decide) rfl (hM.ref (k := 8) (by decide)) dX11_placeAt_73 ?_
            refine z_iload g dX11_placeAt_76 rfl ?_
            refine z_ialdk g (hM.kA1 (k := 8) (by decide)) (by decide) (vp_in_nI (by rw [hM.lnI (k := 8) (by decide)]; show _ < 960; omega) (by rw [hM.lnI (k := 8) (by decide)]; decide)) dX11_placeAt_78 ?_
            rw [nI_clamp (by omega), hM.row (k := 8) (by decide) (by decide)]
            refine z_icmp_lt (tgt := 87) g dX11_placeAt_79 (by decide) (fun c_79 => ?_) (fun c_79 => ?_)
            · refine z_iload g dX11_placeAt_87 rfl ?_
              refine z_istore g dX11_placeAt_89 (by rw [hN]; decide) ?_
              refine z_iinc1 g dX11_placeAt_91 rfl (by rw [hN]; decide) ?_
              refine z_goto (tgt := 9) g dX11_placeAt_94 (by decide) ?_
              have hs := ih (k - 1) (by omega) (j + 1) (by omega)
              rw [nI_s]
              first
                | (rw [show (bst (pP (gA S 8) (gA S 9) (40 * f) d kn) (fun n => gA S 8 (40 * f + n)) (j + 1)) = some j from if_pos ⟨by simp only [pP, decide_eq_false c_33, decide_eq_false c_44]; rfl, by rw [ho]; first | rfl | (show (!decide _) = true; rw [decide_eq_false c_79]; rfl)⟩] at hs
                   exact z_to hs ⟨rfl, rfl, rfl, rfl, rfl, rfl, trivial⟩)
                | (rw [show (bst (pP (gA S 8) (gA S 9) (40 * f) d kn) (fun n => gA S 8 (40 * f + n)) (j + 1)) = (bst (pP (gA S 8) (gA S 9) (40 * f) d kn) (fun n => gA S 8 (40 * f + n)) j) from if_neg (fun z => by first | (have z1 := z.1; simp only [pP, decide_eq_true c_33] at z1; cases z1) | (have z1 := z.1; simp only [pP, decide_eq_true c_44, Bool.not_true, Bool.and_false] at z1; cases z1) | (have z9 := z.2; rw [ho] at z9; change (!decide _) = true at z9; rw [decide_eq_true c_79] at z9; cases z9)), ho] at hs
                   exact z_to hs ⟨rfl, rfl, rfl, rfl, rfl, rfl, trivial⟩)
            · refine z_iload g dX11_placeAt_82 rfl ?_
              refine z_goto (tgt := 89) g dX11_placeAt_84 (by decide) ?_
              refine z_istore g dX11_placeAt_89 (by rw [hN]; decide) ?_
              refine z_iinc1 g dX11_placeAt_91 rfl (by rw [hN]; decide) ?_
              refine z_goto (tgt := 9) g dX11_placeAt_94 (by decide) ?_
              have hs := ih (k - 1) (by omega) (j + 1) (by omega)
              rw [nI_s]
              first
                | (rw [show (bst (pP (gA S 8) (gA S 9) (40 * f) d kn) (fun n => gA S 8 (40 * f + n)) (j + 1)) = some j from if_pos ⟨by simp only [pP, decide_eq_false c_33, decide_eq_false c_44]; rfl, by rw [ho]; first | rfl | (show (!decide _) = true; rw [decide_eq_false c_79]; rfl)⟩] at hs
                   exact z_to hs ⟨rfl, rfl, rfl, rfl, rfl, rfl, trivial⟩)
                | (rw [show (bst (pP (gA S 8) (gA S 9) (40 * f) d kn) (fun n => gA S 8 (40 * f + n)) (j + 1)) = (bst (pP (gA S 8) (gA S 9) (40 * f) d kn) (fun n => gA S 8 (40 * f + n)) j) from if_neg (fun z => by first | (have z1 := z.1; simp only [pP, decide_eq_true c_33] at z1; cases z1) | (have z1 := z.1; simp only [pP, decide_eq_true c_44, Bool.not_true, Bool.and_false] at z1; cases z1) | (have z9 := z.2; rw [ho] at z9; change (!decide _) = true at z9; rw [decide_eq_true c_79] at z9; cases z9)), ho] at hs
                   exact z_to hs ⟨rfl, rfl, rfl, rfl, rfl, rfl, trivial⟩)
  refine z_iconst (v := (-1)) g dX11_placeAt_0 (by decide) ?_
  refine z_istore g dX11_placeAt_1 (by rw [hN]; decide) ?_
  refine z_bipush (v := 40) g dX11_placeAt_3 (by decide) ?_
  refine z_iload_n g dX11_placeAt_5 rfl ?_
  refine z_imul g dX11_placeAt_6 ?_
  rw [m40]
  refine z_istore g dX11_placeAt_7 (by rw [hN]; decide) ?_
  exact z_to (loop _ 0 rfl) ⟨rfl, rfl, rfl, rfl, rfl, rfl, trivial⟩
set_option maxHeartbeats 4000000 in
set_option maxRecDepth 100000 in
theorem n_whA (E : Ev) {A : Nat → Nat} {m : Nat} {S : Ms} (M : Mm) (hM : RM A m S M) (f : Nat) (hf : f < 24) (hmq : gA S 10 f = nI (ca S 10 f)) (hmn : ca S 10 f ≤ 40) (d kn : Int32) : CT E yX11_wholeAt cX11_wholeAt 7 (some .int) 1 0 0 [.ref m, .int (nI f), .int d, .int kn] M (ansI (whA S f d kn) M) noX := by
  refine CT.of rfl (Nat.le_of_ble_eq_true rfl) (fun X g hrt hno hE hN hR hI => ?_)
  subst hE
  have hfc : ca S 10 f ≤ 40 := hmn
  have hmany : gA S 10 f = nI (ca S 10 f) := hmq
  have loop : ∀ (k j : Nat) (hk : k + j = ca S 10 f), Z X M 0 0 9 [(0, .ref m), (1, .int (nI f)), (2, .int d), (3, .int kn), (4, .int (o2i (40 * f) ((bst (pP (gA S 12) (gA S 13) (40 * f) d kn) (fun n => gA S 12 (40 * f + n)) j)))), (5, .int (nI (40 * f + j)))] [] := by
    intro k
    induction k using Nat.strongRecOn with
    | _ k ih =>
      intro j hk
      rcases ho : (bst (pP (gA S 12) (gA S 13) (40 * f) d kn) (fun n => gA S 12 (40 * f + n)) j) with _ | q
      · show Z X M 0 0 9 [(0, .ref m), (1, .int (nI f)), (2, .int d), (3, .int kn), (4, .int (-1)), (5, .int (nI (40 * f + j)))] []
        refine z_iload g dX11_wholeAt_9 rfl ?_
        refine z_bipush (v := 40) g dX11_wholeAt_11 (by decide) ?_
        refine z_iload_n g dX11_wholeAt_13 rfl ?_
        refine z_imul g dX11_wholeAt_14 ?_
        rw [m40]
        refine z_aload_n g dX11_wholeAt_15 rfl ?_
        refine z_getR g fl_X11_31 hM.k0 (by decide) rfl (hM.ref (k := 10) (by decide)) dX11_wholeAt_16 ?_
        refine z_iload_n g dX11_wholeAt_19 rfl ?_
        refine z_ialdk g (hM.kA1 (k := 10) (by decide)) (by decide) (vp_in_nI (by rw [hM.lnI (k := 10) (by decide)]; show _ < 24; omega) (by rw [hM.lnI (k := 10) (by decide)]; decide)) dX11_wholeAt_20 ?_
        rw [nI_clamp (by omega), hM.row (k := 10) (by decide) (by decide)]
        rw [hmany]
        refine z_iadd g dX11_wholeAt_21 ?_
        rw [nI_add]
        refine z_icmp_ge (tgt := 97) g dX11_wholeAt_22 (by decide) (fun c_22 => ?_) (fun c_22 => ?_)
        · rw [nI_leI (by omega) (by omega)] at c_22
          have hjn : j = ca S 10 f := by omega
          have hp : whA S f d kn = -1 := by rw [whA, show whI S f d kn = none from (show whI S f d kn = (bst (pP (gA S 12) (gA S 13) (40 * f) d kn) (fun n => gA S 12 (40 * f + n)) j) by rw [whI, ← hjn]).trans ho]
          refine z_iload g dX11_wholeAt_97 rfl ?_
          refine z_iconst (v := -1) g dX11_wholeAt_99 (by decide) ?_
          refine z_icmp_ne (tgt := 107) g dX11_wholeAt_100 (by decide) (fun c => absurd rfl c) (fun _ => ?_)
          refine z_iconst (v := -1) g dX11_wholeAt_103 (by decide) ?_
          refine z_goto (tgt := 114) g dX11_wholeAt_104 (by decide) ?_
          exact z_iret g hrt rfl (by decide) (by decide) dX11_wholeAt_114 ⟨by rw [hp], rfl⟩
        have h22 : j < ca S 10 f := by rw [nI_leI (by omega) (by omega)] at c_22; omega
        refine z_aload_n g dX11_wholeAt_25 rfl ?_
        refine z_getR g fl_X11_37 hM.k0 (by decide) rfl (hM.ref (k := 12) (by decide)) dX11_wholeAt_26 ?_
        refine z_iload g dX11_wholeAt_29 rfl ?_
        refine z_ialdk g (hM.kA1 (k := 12) (by decide)) (by decide) (vp_in_nI (by rw [hM.lnI (k := 12) (by decide)]; show _ < 960; omega) (by rw [hM.lnI (k := 12) (by decide)]; decide)) dX11_wholeAt_31 ?_
        rw [nI_clamp (by omega), hM.row (k := 12) (by decide) (by decide)]
        refine z_iload_n g dX11_wholeAt_32 rfl ?_
        refine z_icmp_gt (tgt := 51) g dX11_wholeAt_33 (by decide) (fun c_33 => ?_) (fun c_33 => ?_)
        · refine z_iconst (v := 0) g dX11_wholeAt_51 (by decide) ?_
          refine z_istore g dX11_wholeAt_52 (by rw [hN]; decide) ?_
          refine z_iload g dX11_wholeAt_54 rfl ?_
          refine z_if_eq (tgt := 87) g dX11_wholeAt_56 (by decide) (fun _ => ?_) (fun c_56 => absurd (by decide) c_56)
          refine z_iload g dX11_wholeAt_87 rfl ?_
          refine z_istore g dX11_wholeAt_89 (by rw [hN]; decide) ?_
          refine z_iinc1 g dX11_wholeAt_91 rfl (by rw [hN]; decide) ?_
          refine z_goto (tgt := 9) g dX11_wholeAt_94 (by decide) ?_
          have hs := ih (k - 1) (by omega) (j + 1) (by omega)
          rw [nI_s]
          first
            | (rw [show (bst (pP (gA S 12) (gA S 13) (40 * f) d kn) (fun n => gA S 12 (40 * f + n)) (j + 1)) = some j from if_pos ⟨by simp only [pP, decide_eq_false c_33, decide_eq_false c_44]; rfl, by rw [ho]; first | rfl | (show (!decide _) = true; rw [decide_eq_false c_79]; rfl)⟩] at hs
               exact z_to hs ⟨rfl, rfl, rfl, rfl, rfl, rfl, trivial⟩)
            | (rw [show (bst (pP (gA S 12) (gA S 13) (40 * f) d kn) (fun n => gA S 12 (40 * f + n)) (j + 1)) = (bst (pP (gA S 12) (gA S 13) (40 * f) d kn) (fun n => gA S 12 (40 * f + n)) j) from if_neg (fun z => by first | (have z1 := z.1; simp only [pP, decide_eq_true c_33] at z1; cases z1) | (have z1 := z.1; simp only [pP, decide_eq_true c_44, Bool.not_true, Bool.and_false] at z1; cases z1) | (have z9 := z.2; rw [ho] at z9; change (!decide _) = true at z9; rw [decide_eq_true c_79] at z9; cases z9)), ho] at hs
               exact z_to hs ⟨rfl, rfl, rfl, rfl, rfl, rfl, trivial⟩)
        · refine z_aload_n g dX11_wholeAt_36 rfl ?_
          refine z_getR g fl_X11_40 hM.k0 (by decide) rfl (hM.ref (k := 13) (by decide)) dX11_wholeAt_37 ?_
          refine z_iload g dX11_wholeAt_40 rfl ?_
          refine z_ialdk g (hM.kA1 (k := 13) (by decide)) (by decide) (vp_in_nI (by rw [hM.lnI (k := 13) (by decide)]; show _ < 960; omega) (by rw [hM.lnI (k := 13) (by decide)]; decide)) dX11_wholeAt_42 ?_
          rw [nI_clamp (by omega), hM.row (k := 13) (by decide) (by decide)]
          refine z_iload_n g dX11_wholeAt_43 rfl ?_
          refine z_icmp_gt (tgt := 51) g dX11_wholeAt_44 (by decide) (fun c_44 => ?_) (fun c_44 => ?_)
          · refine z_iconst (v := 0) g dX11_wholeAt_51 (by decide) ?_
            refine z_istore g dX11_wholeAt_52 (by rw [hN]; decide) ?_
            refine z_iload g dX11_wholeAt_54 rfl ?_
            refine z_if_eq (tgt := 87) g dX11_wholeAt_56 (by decide) (fun _ => ?_) (fun c_56 => absurd (by decide) c_56)
            refine z_iload g dX11_wholeAt_87 rfl ?_
            refine z_istore g dX11_wholeAt_89 (by rw [hN]; decide) ?_
            refine z_iinc1 g dX11_wholeAt_91 rfl (by rw [hN]; decide) ?_
            refine z_goto (tgt := 9) g dX11_wholeAt_94 (by decide) ?_
            have hs := ih (k - 1) (by omega) (j + 1) (by omega)
            rw [nI_s]
            first
              | (rw [show (bst (pP (gA S 12) (gA S 13) (40 * f) d kn) (fun n => gA S 12 (40 * f + n)) (j + 1)) = some j from if_pos ⟨by simp only [pP, decide_eq_false c_33, decide_eq_false c_44]; rfl, by rw [ho]; first | rfl | (show (!decide _) = true; rw [decide_eq_false c_79]; rfl)⟩] at hs
                 exact z_to hs ⟨rfl, rfl, rfl, rfl, rfl, rfl, trivial⟩)
              | (rw [show (bst (pP (gA S 12) (gA S 13) (40 * f) d kn) (fun n => gA S 12 (40 * f + n)) (j + 1)) = (bst (pP (gA S 12) (gA S 13) (40 * f) d kn) (fun n => gA S 12 (40 * f + n)) j) from if_neg (fun z => by first | (have z1 := z.1; simp only [pP, decide_eq_true c_33] at z1; cases z1) | (have z1 := z.1; simp only [pP, decide_eq_true c_44, Bool.not_true, Bool.and_false] at z1; cases z1) | (have z9 := z.2; rw [ho] at z9; change (!decide _) = true at z9; rw [decide_eq_true c_79] at z9; cases z9)), ho] at hs
                 exact z_to hs ⟨rfl, rfl, rfl, rfl, rfl, rfl, trivial⟩)
          · refine z_iconst (v := 1) g dX11_wholeAt_47 (by decide) ?_
            refine z_goto (tgt := 52) g dX11_wholeAt_48 (by decide) ?_
            refine z_istore g dX11_wholeAt_52 (by rw [hN]; decide) ?_
            refine z_iload g dX11_wholeAt_54 rfl ?_
            refine z_if_eq (tgt := 87) g dX11_wholeAt_56 (by decide) (fun c_56 => absurd c_56 (by decide)) (fun _ => ?_)
            refine z_iload g dX11_wholeAt_59 rfl ?_
            refine z_iconst (v := (-1)) g dX11_wholeAt_61 (by decide) ?_
            refine z_icmp_eq (tgt := 82) g dX11_wholeAt_62 (by decide) (fun c_62 => ?_) (fun c_62 => (by exact absurd rfl c_62))
            refine z_iload g dX11_wholeAt_82 rfl ?_
            refine z_goto (tgt := 89) g dX11_wholeAt_84 (by decide) ?_
            refine z_istore g dX11_wholeAt_89 (by rw [hN]; decide) ?_
            refine z_iinc1 g dX11_wholeAt_91 rfl (by rw [hN]; decide) ?_
            refine z_goto (tgt := 9) g dX11_wholeAt_94 (by decide) ?_
            have hs := ih (k - 1) (by omega) (j + 1) (by omega)
            rw [nI_s]
            first
              | (rw [show (bst (pP (gA S 12) (gA S 13) (40 * f) d kn) (fun n => gA S 12 (40 * f + n)) (j + 1)) = some j from if_pos ⟨by simp only [pP, decide_eq_false c_33, decide_eq_false c_44]; rfl, by rw [ho]; first | rfl | (show (!decide _) = true; rw [decide_eq_false c_79]; rfl)⟩] at hs
                 exact z_to hs ⟨rfl, rfl, rfl, rfl, rfl, rfl, trivial⟩)
              | (rw [show (bst (pP (gA S 12) (gA S 13) (40 * f) d kn) (fun n => gA S 12 (40 * f + n)) (j + 1)) = (bst (pP (gA S 12) (gA S 13) (40 * f) d kn) (fun n => gA S 12 (40 * f + n)) j) from if_neg (fun z => by first | (have z1 := z.1; simp only [pP, decide_eq_true c_33] at z1; cases z1) | (have z1 := z.1; simp only [pP, decide_eq_true c_44, Bool.not_true, Bool.and_false] at z1; cases z1) | (have z9 := z.2; rw [ho] at z9; change (!decide _) = true at z9; rw [decide_eq_true c_79] at z9; cases z9)), ho] at hs
                 exact z_to hs ⟨rfl, rfl, rfl, rfl, rfl, rfl, trivial⟩)
      · show Z X M 0 0 9 [(0, .ref m), (1, .int (nI f)), (2, .int d), (3, .int kn), (4, .int (nI (40 * f + q))), (5, .int (nI (40 * f + j)))] []
        have hq := (bst_mem ho).1
        refine z_iload g dX11_wholeAt_9 rfl ?_
        refine z_bipush (v := 40) g dX11_wholeAt_11 (by decide) ?_
        refine z_iload_n g dX11_wholeAt_13 rfl ?_
        refine z_imul g dX11_wholeAt_14 ?_
        rw [m40]
        refine z_aload_n g dX11_wholeAt_15 rfl ?_
        refine z_getR g fl_X11_31 hM.k0 (by decide) rfl (hM.ref (k := 10) (by decide)) dX11_wholeAt_16 ?_
        refine z_iload_n g dX11_wholeAt_19 rfl ?_
        refine z_ialdk g (hM.kA1 (k := 10) (by decide)) (by decide) (vp_in_nI (by rw [hM.lnI (k := 10) (by decide)]; show _ < 24; omega) (by rw [hM.lnI (k := 10) (by decide)]; decide)) dX11_wholeAt_20 ?_
        rw [nI_clamp (by omega), hM.row (k := 10) (by decide) (by decide)]
        rw [hmany]
        refine z_iadd g dX11_wholeAt_21 ?_
        rw [nI_add]
        refine z_icmp_ge (tgt := 97) g dX11_wholeAt_22 (by decide) (fun c_22 => ?_) (fun c_22 => ?_)
        · rw [nI_leI (by omega) (by omega)] at c_22
          have hjn : j = ca S 10 f := by omega
          have hp : whA S f d kn = gA S 11 (40 * f + q) := by rw [whA, show whI S f d kn = some q from (show whI S f d kn = (bst (pP (gA S 12) (gA S 13) (40 * f) d kn) (fun n => gA S 12 (40 * f + n)) j) by rw [whI, ← hjn]).trans ho]
          refine z_iload g dX11_wholeAt_97 rfl ?_
          refine z_iconst (v := -1) g dX11_wholeAt_99 (by decide) ?_
          refine z_icmp_ne (tgt := 107) g dX11_wholeAt_100 (by decide) (fun _ => ?_) (fun c => absurd c (m1_ne (by omega)))
          refine z_aload_n g dX11_wholeAt_107 rfl ?_
          refine z_getR g fl_X11_34 hM.k0 (by decide) rfl (hM.ref (k := 11) (by decide)) dX11_wholeAt_108 ?_
          refine z_iload g dX11_wholeAt_111 rfl ?_
          refine z_ialdk g (hM.kA1 (k := 11) (by decide)) (by decide) (vp_in_nI (by rw [hM.lnI (k := 11) (by decide)]; show _ < 960; omega) (by rw [hM.lnI (k := 11) (by decide)]; decide)) dX11_wholeAt_113 ?_
          rw [nI_clamp (by omega), hM.row (k := 11) (by decide) (by decide)]
          exact z_iret g hrt rfl (by decide) (by decide) dX11_wholeAt_114 ⟨by rw [hp], rfl⟩
        have h22 : j < ca S 10 f := by rw [nI_leI (by omega) (by omega)] at c_22; omega
        refine z_aload_n g dX11_wholeAt_25 rfl ?_
        refine z_getR g fl_X11_37 hM.k0 (by decide) rfl (hM.ref (k := 12) (by decide)) dX11_wholeAt_26 ?_
        refine z_iload g dX11_wholeAt_29 rfl ?_
        refine z_ialdk g (hM.kA1 (k := 12) (by decide)) (by decide) (vp_in_nI (by rw [hM.lnI (k := 12) (by decide)]; show _ < 960; omega) (by rw [hM.lnI (k := 12) (by decide)]; decide)) dX11_wholeAt_31 ?_
        rw [nI_clamp (by omega), hM.row (k := 12) (by decide) (by decide)]
        refine z_iload_n g dX11_wholeAt_32 rfl ?_
        refine z_icmp_gt (tgt := 51) g dX11_wholeAt_33 (by decide) (fun c_33 => ?_) (fun c_33 => ?_)
        · refine z_iconst (v := 0) g dX11_wholeAt_51 (by decide) ?_
          refine z_istore g dX11_wholeAt_52 (by rw [hN]; decide) ?_
          refine z_iload g dX11_wholeAt_54 rfl ?_
          refine z_if_eq (tgt := 87) g dX11_wholeAt_56 (by decide) (fun _ => ?_) (fun c_56 => absurd (by decide) c_56)
          refine z_iload g dX11_wholeAt_87 rfl ?_
          refine z_istore g dX11_wholeAt_89 (by rw [hN]; decide) ?_
          refine z_iinc1 g dX11_wholeAt_91 rfl (by rw [hN]; decide) ?_
          refine z_goto (tgt := 9) g dX11_wholeAt_94 (by decide) ?_
          have hs := ih (k - 1) (by omega) (j + 1) (by omega)
          rw [nI_s]
          first
            | (rw [show (bst (pP (gA S 12) (gA S 13) (40 * f) d kn) (fun n => gA S 12 (40 * f + n)) (j + 1)) = some j from if_pos ⟨by simp only [pP, decide_eq_false c_33, decide_eq_false c_44]; rfl, by rw [ho]; first | rfl | (show (!decide _) = true; rw [decide_eq_false c_79]; rfl)⟩] at hs
               exact z_to hs ⟨rfl, rfl, rfl, rfl, rfl, rfl, trivial⟩)
            | (rw [show (bst (pP (gA S 12) (gA S 13) (40 * f) d kn) (fun n => gA S 12 (40 * f + n)) (j + 1)) = (bst (pP (gA S 12) (gA S 13) (40 * f) d kn) (fun n => gA S 12 (40 * f + n)) j) from if_neg (fun z => by first | (have z1 := z.1; simp only [pP, decide_eq_true c_33] at z1; cases z1) | (have z1 := z.1; simp only [pP, decide_eq_true c_44, Bool.not_true, Bool.and_false] at z1; cases z1) | (have z9 := z.2; rw [ho] at z9; change (!decide _) = true at z9; rw [decide_eq_true c_79] at z9; cases z9)), ho] at hs
               exact z_to hs ⟨rfl, rfl, rfl, rfl, rfl, rfl, trivial⟩)
        · refine z_aload_n g dX11_wholeAt_36 rfl ?_
          refine z_getR g fl_X11_40 hM.k0 (by decide) rfl (hM.ref (k := 13) (by decide)) dX11_wholeAt_37 ?_
          refine z_iload g dX11_wholeAt_40 rfl ?_
          refine z_ialdk g (hM.kA1 (k := 13) (by decide)) (by decide) (vp_in_nI (by rw [hM.lnI (k := 13) (by decide)]; show _ < 960; omega) (by rw [hM.lnI (k := 13) (by decide)]; decide)) dX11_wholeAt_42 ?_
          rw [nI_clamp (by omega), hM.row (k := 13) (by decide) (by decide)]
          refine z_iload_n g dX11_wholeAt_43 rfl ?_
          refine z_icmp_gt (tgt := 51) g dX11_wholeAt_44 (by decide) (fun c_44 => ?_) (fun c_44 => ?_)
          · refine z_iconst (v := 0) g dX11_wholeAt_51 (by decide) ?_
            refine z_istore g dX11_wholeAt_52 (by rw [hN]; decide) ?_
            refine z_iload g dX11_wholeAt_54 rfl ?_
            refine z_if_eq (tgt := 87) g dX11_wholeAt_56 (by decide) (fun _ => ?_) (fun c_56 => absurd (by decide) c_56)
            refine z_iload g dX11_wholeAt_87 rfl ?_
            refine z_istore g dX11_wholeAt_89 (by rw [hN]; decide) ?_
            refine z_iinc1 g dX11_wholeAt_91 rfl (by rw [hN]; decide) ?_
            refine z_goto (tgt := 9) g dX11_wholeAt_94 (by decide) ?_
            have hs := ih (k - 1) (by omega) (j + 1) (by omega)
            rw [nI_s]
            first
              | (rw [show (bst (pP (gA S 12) (gA S 13) (40 * f) d kn) (fun n => gA S 12 (40 * f + n)) (j + 1)) = some j from if_pos ⟨by simp only [pP, decide_eq_false c_33, decide_eq_false c_44]; rfl, by rw [ho]; first | rfl | (show (!decide _) = true; rw [decide_eq_false c_79]; rfl)⟩] at hs
                 exact z_to hs ⟨rfl, rfl, rfl, rfl, rfl, rfl, trivial⟩)
              | (rw [show (bst (pP (gA S 12) (gA S 13) (40 * f) d kn) (fun n => gA S 12 (40 * f + n)) (j + 1)) = (bst (pP (gA S 12) (gA S 13) (40 * f) d kn) (fun n => gA S 12 (40 * f + n)) j) from if_neg (fun z => by first | (have z1 := z.1; simp only [pP, decide_eq_true c_33] at z1; cases z1) | (have z1 := z.1; simp only [pP, decide_eq_true c_44, Bool.not_true, Bool.and_false] at z1; cases z1) | (have z9 := z.2; rw [ho] at z9; change (!decide _) = true at z9; rw [decide_eq_true c_79] at z9; cases z9)), ho] at hs
                 exact z_to hs ⟨rfl, rfl, rfl, rfl, rfl, rfl, trivial⟩)
          · refine z_iconst (v := 1) g dX11_wholeAt_47 (by decide) ?_
            refine z_goto (tgt := 52) g dX11_wholeAt_48 (by decide) ?_
            refine z_istore g dX11_wholeAt_52 (by rw [hN]; decide) ?_
            refine z_iload g dX11_wholeAt_54 rfl ?_
            refine z_if_eq (tgt := 87) g dX11_wholeAt_56 (by decide) (fun c_56 => absurd c_56 (by decide)) (fun _ => ?_)
            refine z_iload g dX11_wholeAt_59 rfl ?_
            refine z_iconst (v := (-1)) g dX11_wholeAt_61 (by decide) ?_
            refine z_icmp_eq (tgt := 82) g dX11_wholeAt_62 (by decide) (fun c_62 => (by exact absurd c_62 (m1_ne (by omega)))) (fun c_62 => ?_)
            refine z_aload_n g dX11_wholeAt_65 rfl ?_
            refine z_getR g fl_X11_37 hM.k0 (by decide) rfl (hM.ref (k := 12) (by decide)) dX11_wholeAt_66 ?_
            refine z_iload g dX11_wholeAt_69 rfl ?_
            refine z_ialdk g (hM.kA1 (k := 12) (by decide)) (by decide) (vp_in_nI (by rw [hM.lnI (k := 12) (by decide)]; show _ < 960; omega) (by rw [hM.lnI (k := 12) (by decide)]; decide)) dX11_wholeAt_71 ?_
            rw [nI_clamp (by omega), hM.row (k := 12) (by decide) (by decide)]
            refine z_aload_n g dX11_wholeAt_72 rfl ?_
            refine z_getR g fl_X11_37 hM.k0 (by decide) rfl (hM.ref (k := 12) (by decide)) dX11_wholeAt_73 ?_
            refine z_iload g dX11_wholeAt_76 rfl ?_
            refine z_ialdk g (hM.kA1 (k := 12) (by decide)) (by decide) (vp_in_nI (by rw [hM.lnI (k := 12) (by decide)]; show _ < 960; omega) (by rw [hM.lnI (k := 12) (by decide)]; decide)) dX11_wholeAt_78 ?_
            rw [nI_clamp (by omega), hM.row (k := 12) (by decide) (by decide)]
            refine z_icmp_lt (tgt := 87) g dX11_wholeAt_79 (by decide) (fun c_79 => ?_) (fun c_79 => ?_)
            · refine z_iload g dX11_wholeAt_87 rfl ?_
              refine z_istore g dX11_wholeAt_89 (by rw [hN]; decide) ?_
              refine z_iinc1 g dX11_wholeAt_91 rfl (by rw [hN]; decide) ?_
              refine z_goto (tgt := 9) g dX11_wholeAt_94 (by decide) ?_
              have hs := ih (k - 1) (by omega) (j + 1) (by omega)
              rw [nI_s]
              first
                | (rw [show (bst (pP (gA S 12) (gA S 13) (40 * f) d kn) (fun n => gA S 12 (40 * f + n)) (j + 1)) = some j from if_pos ⟨by simp only [pP, decide_eq_false c_33, decide_eq_false c_44]; rfl, by rw [ho]; first | rfl | (show (!decide _) = true; rw [decide_eq_false c_79]; rfl)⟩] at hs
                   exact z_to hs ⟨rfl, rfl, rfl, rfl, rfl, rfl, trivial⟩)
                | (rw [show (bst (pP (gA S 12) (gA S 13) (40 * f) d kn) (fun n => gA S 12 (40 * f + n)) (j + 1)) = (bst (pP (gA S 12) (gA S 13) (40 * f) d kn) (fun n => gA S 12 (40 * f + n)) j) from if_neg (fun z => by first | (have z1 := z.1; simp only [pP, decide_eq_true c_33] at z1; cases z1) | (have z1 := z.1; simp only [pP, decide_eq_true c_44, Bool.not_true, Bool.and_false] at z1; cases z1) | (have z9 := z.2; rw [ho] at z9; change (!decide _) = true at z9; rw [decide_eq_true c_79] at z9; cases z9)), ho] at hs
                   exact z_to hs ⟨rfl, rfl, rfl, rfl, rfl, rfl, trivial⟩)
            · refine z_iload g dX11_wholeAt_82 rfl ?_
              refine z_goto (tgt := 89) g dX11_wholeAt_84 (by decide) ?_
              refine z_istore g dX11_wholeAt_89 (by rw [hN]; decide) ?_
              refine z_iinc1 g dX11_wholeAt_91 rfl (by rw [hN]; decide) ?_
              refine z_goto (tgt := 9) g dX11_wholeAt_94 (by decide) ?_
              have hs := ih (k - 1) (by omega) (j + 1) (by omega)
              rw [nI_s]
              first
                | (rw [show (bst (pP (gA S 12) (gA S 13) (40 * f) d kn) (fun n => gA S 12 (40 * f + n)) (j + 1)) = some j from if_pos ⟨by simp only [pP, decide_eq_false c_33, decide_eq_false c_44]; rfl, by rw [ho]; first | rfl | (show (!decide _) = true; rw [decide_eq_false c_79]; rfl)⟩] at hs
                   exact z_to hs ⟨rfl, rfl, rfl, rfl, rfl, rfl, trivial⟩)
                | (rw [show (bst (pP (gA S 12) (gA S 13) (40 * f) d kn) (fun n => gA S 12 (40 * f + n)) (j + 1)) = (bst (pP (gA S 12) (gA S 13) (40 * f) d kn) (fun n => gA S 12 (40 * f + n)) j) from if_neg (fun z => by first | (have z1 := z.1; simp only [pP, decide_eq_true c_33] at z1; cases z1) | (have z1 := z.1; simp only [pP, decide_eq_true c_44, Bool.not_true, Bool.and_false] at z1; cases z1) | (have z9 := z.2; rw [ho] at z9; change (!decide _) = true at z9; rw [decide_eq_true c_79] at z9; cases z9)), ho] at hs
                   exact z_to hs ⟨rfl, rfl, rfl, rfl, rfl, rfl, trivial⟩)
  refine z_iconst (v := (-1)) g dX11_wholeAt_0 (by decide) ?_
  refine z_istore g dX11_wholeAt_1 (by rw [hN]; decide) ?_
  refine z_bipush (v := 40) g dX11_wholeAt_3 (by decide) ?_
  refine z_iload_n g dX11_wholeAt_5 rfl ?_
  refine z_imul g dX11_wholeAt_6 ?_
  rw [m40]
  refine z_istore g dX11_wholeAt_7 (by rw [hN]; decide) ?_
  exact z_to (loop _ 0 rfl) ⟨rfl, rfl, rfl, rfl, rfl, rfl, trivial⟩
