def RY (B : Nat → Nat → Nat) (x : Nat) (S : Ms) (M : Mm) : Prop := qX B x M ∧ qS x S M ∧ qF B S M ∧ qD B S M ∧ qG B S M ∧ qH B S M ∧ qP B S M ∧ qW B S M ∧ qM B S M ∧ qE B S M ∧ qL B S M ∧ qQ B S M ∧ qT B S M ∧ qR B S M ∧ qC B S M ∧ True ∧ qI B S M
theorem j_nmA (E : Ev) {B : Nat → Nat → Nat} {x : Nat} {S : Ms} (M : Mm) (hX : RY B x S M) (hV : INV S) (j : Nat) (hj : j < cn S 2) (t d k : Int32) : CT E yX3_nameOn cX3_nameOn 7 (some (.object "NameLand$Name")) 4 0 0 [.ref (B 4 j), .int t, .int d, .int k] M (ansO ((nmA S (nI j) t d k).map (B 7)) M) noX := by
  obtain ⟨qx, qs, qf, qd, qg, qh, qp, qw, qm, qe, ql, qq, qt, qr, qc, qo, qi⟩ := hX
  obtain ⟨-, -, -, ⟨-, -, g4, -⟩, -⟩ := qf.2 j hj
  rw [← nOn_nmA qm hV hj]
  exact c_nOn _ M _ _ (qf.k4 hj) g4 (qm.LK qf hV hj) t d k
theorem j_exA (E : Ev) {B : Nat → Nat → Nat} {x : Nat} {S : Ms} (M : Mm) (hX : RY B x S M) (hV : INV S) (j : Nat) (hj : j < cn S 2) (t k : Int32) : CT E yX3_exemptFrom cX3_exemptFrom 6 (some .int) 4 0 0 [.ref (B 4 j), .int t, .int k] M (ansI (exA S (nI j) t k (cn S 31)) M) noX := by
  obtain ⟨qx, qs, qf, qd, qg, qh, qp, qw, qm, qe, ql, qq, qt, qr, qc, qo, qi⟩ := hX
  obtain ⟨-, -, -, ⟨-, -, -, g5, -⟩, -⟩ := qf.2 j hj
  rw [← xFr_exA qe hV hj]
  exact c_xFr _ M _ _ (qf.k4 hj) g5 (qe.LK qf hV hj) t k
set_option maxHeartbeats 4000000 in
set_option maxRecDepth 100000 in
theorem j_form (E : Ev) {B : Nat → Nat → Nat} {x : Nat} {S : Ms} (M : Mm) (hX : RY B x S M) (hV : INV S) (f : Nat) (hf : f < cn S 2) (t d k : Int32) : CT E yX10_formOn cX10_formOn 12 (some .long) 5 0 0 [.ref x, .ref (B 4 f), .int t, .int d, .int k] M (ansL (formA S (nI f) t d k) M) noX := by
  refine CT.of rfl (Nat.le_of_ble_eq_true rfl) (fun X g hrt hno hE hN hR hI => ?_)
  subst hE
  have hX0 := hX
  obtain ⟨qx, qs, qf, qd, qg, qh, qp, qw, qm, qe, ql, qq, qt, qr, qc, qo, qi⟩ := hX
  have k11 : kd M x % 1000 = 11 := by rw [qx.1]
  have r1 : fR M x 1 = some (B 401 0) := (qx.2.1 1 (by decide)).1
  have kl1 : kd M (B 401 0) = 401 := (qx.2.1 1 (by decide)).2
  have l1 : LK M (B 401 0) 6 := ql.LK kl1 hV
  have m1 := l1.1
  have n1 : ln M (B 401 0) = cn S 24 := ql.1
  have b1 := l1.2.1
  rw [n1] at b1
  have k4 : kd M (B 4 f) % 1000 = 4 := qf.k4 hf
  obtain ⟨-, -, ⟨fk0, fk1⟩, ⟨g2, g3, g4, g5, g6⟩, ⟨k5a, k5b, -⟩, e5a, e5b, l170⟩ := qf.2 f hf
  have k5a1 : kd M (B 5 (2 * f)) % 1000 = 5 := by rw [k5a]; omega
  have k5b1 : kd M (B 5 (2 * f + 1)) % 1000 = 5 := by rw [k5b]; omega
  have k170 : kd M (B 170 f) % 1000 = 170 := qf.k170 hf
  refine z_aload_n g dX10_formOn_0 rfl ?_
  refine z_iload_n g dX10_formOn_1 rfl ?_
  refine z_iload_n g dX10_formOn_2 rfl ?_
  refine z_iload g dX10_formOn_3 rfl ?_
  refine z_callV g _ _ cv_X10_370 (j_nmA _ M hX0 hV f hf t d k) (by assumption) (by decide) rfl (by rw [hR]; decide) (by rw [hR]; decide) (by rw [hR]; decide) (Nat.le_of_ble_eq_true rfl) rfl dX10_formOn_5 (fun _ _ h => False.elim h) (fun r_5 M_5 h_5 => ?_)
  obtain ⟨rfl, rfl⟩ := h_5
  rcases ho : nmA S (nI f) t d k with _ | n
  · show Z X M _ _ 8 _ [.null]
    refine z_astoreN g dX10_formOn_8 (by rw [hN]; decide) ?_
    refine z_aloadN g dX10_formOn_10 rfl ?_
    refine z_ifnonnullN g dX10_formOn_12 ?_
    refine z_lconst (v := 0) g dX10_formOn_15 (by decide) ?_
    exact z_lret g hrt (by decide) (by decide) dX10_formOn_16 ⟨by unfold formA; rw [ho], rfl⟩
  · show Z X M _ _ 8 _ [.ref (B 7 n)]
    have hn := (bst_mem ho).1
    obtain ⟨-, k7a, -, hnw, hnd, -⟩ := qm.2 n hn
    have k7 : kd M (B 7 n) % 1000 = 7 := by rw [k7a]; omega
    have hwd := (hV.2.2.2.1 n hn).2.2.2.1
    have hnw2 := hwd.2.2
    have hL := hV.OkF.2.1
    obtain ⟨-, σ, s0, s2, s3⟩ := ql
    have s1 : ∀ i, i < cn S 24 → σ i < cn S 24 := fun i hi => (s0 i hi).1
    have s4 : ∀ i, i < cn S 24 → qL1 S M (B 401 0) i (σ i) := fun i hi => (s0 i hi).2
    have ⟨ex, hex⟩ : ∃ ex, exA S (nI f) t k (cn S 31) = ex := ⟨_, rfl⟩
    have ⟨PP, hPP⟩ : ∃ PP, PP = lawP S t (gA S 21 n) d k ex := ⟨_, rfl⟩
    have ⟨u, huu⟩ : ∃ u, u = (wr (gL S 20 n)).reverse := ⟨_, rfl⟩
    have hu : LW 12 u := by rw [huu]; exact LW.rev hwd.LW
    have hu0 : u.reverse = wr (gL S 20 n) := by rw [huu, List.reverse_reverse]
    have hform : lN (lv (prc S PP u 120000).reverse) = formA S (nI f) t d k := by
      unfold formA
      rw [ho]
      dsimp only
      rw [hex, ← hPP, ← huu]
    have loop : ∀ (m j : Nat) (hk : m + j = cn S 24), Z X M 0 0 36 [(0, .ref x), (1, .ref (B 4 f)), (2, .int t), (3, .int d), (4, .int k), (5, .ref (B 7 n)), (6, .int ex), (7, .long (lN (lv (prc S PP u (kyA S σ j)).reverse))), (9, .int (nI j))] [] := by
      intro m
      induction m using Nat.strongRecOn with
      | _ m ih =>
        intro j hk
        refine z_iload g dX10_formOn_36 rfl ?_
        refine z_aload_n g dX10_formOn_38 rfl ?_
        refine z_getR g fl_X10_16 (by assumption) (by decide) rfl (by assumption) dX10_formOn_39 ?_
        refine z_callL g _ _ cv_X10_67 rfl (c_alsize _ M (B 401 0) l1.1) (by assumption) rfl (by rw [hR]; decide) (by rw [hR]; decide) (by rw [hR]; decide) (Nat.le_of_ble_eq_true rfl) rfl dX10_formOn_42 (fun _ _ h => False.elim h) (fun r_42 M_42 h_42 => ?_)
        obtain ⟨rfl, rfl⟩ := h_42
        rw [n1]
        refine z_icmp_ge (tgt := 140) g dX10_formOn_45 (by decide) (fun c_45 => ?_) (fun c_45 => ?_)
        · rw [nI_leI (by omega) (by omega)] at c_45
          refine z_lload g dX10_formOn_140 rfl ?_
          exact z_lret g hrt (by decide) (by decide) dX10_formOn_142 ⟨by rw [show j = cn S 24 by omega, ← ky_all hL s1 s2 s3, hform], rfl⟩
        have hj9 : j < cn S 24 := by rw [nI_leI (by omega) (by omega)] at c_45; omega
        refine z_aload_n g dX10_formOn_48 rfl ?_
        refine z_getR g fl_X10_16 (by assumption) (by decide) rfl (by assumption) dX10_formOn_49 ?_
        refine z_iload g dX10_formOn_52 rfl ?_
        refine z_callL g _ _ cv_X10_310 rfl (c_getL _ M (B 401 0) j l1 (by rw [n1]; exact hj9)) (by assumption) rfl (by rw [hR]; decide) (by rw [hR]; decide) (by rw [hR]; decide) (Nat.le_of_ble_eq_true rfl) rfl dX10_formOn_54 (fun _ _ h => False.elim h) (fun r_54 M_54 h_54 => ?_)
        obtain ⟨rfl, rfl⟩ := h_54
        have kel : kd M (elt M (B 401 0) j) % 1000 = 6 := (l1.2.2 j (by rw [n1]; exact hj9)).2
        obtain ⟨-, -, w0, w1, w2, w3, w4, w5⟩ := s4 j hj9
        obtain ⟨⟨y26, y26b⟩, ⟨y27, y27b⟩, ⟨y28, y28b⟩, ⟨y29, y29b⟩, y0⟩ := hL.2.2 (σ j) (s1 j hj9)
        refine z_cast (b := 6) g cl_X10_172 rfl (by assumption) (by decide) dX10_formOn_57 ?_
        refine z_astore g dX10_formOn_60 (by rw [hN]; decide) ?_
        refine z_aload g dX10_formOn_62 rfl ?_
        refine z_getI g fl_X10_378 (by assumption) (by decide) rfl dX10_formOn_64 ?_
        rw [w0]
        refine z_iload_n g dX10_formOn_67 rfl ?_
        refine z_icmp_ne (tgt := 85) g dX10_formOn_68 (by decide) (fun c_68 => ?_) (fun c_68 => ?_)
        · refine z_iconst (v := 0) g dX10_formOn_85 (by decide) ?_
          refine z_istore g dX10_formOn_86 (by rw [hN]; decide) ?_
          refine z_iload g dX10_formOn_88 rfl ?_
          refine z_if_eq (tgt := 134) g dX10_formOn_90 (by decide) (fun _ => ?_) (fun c_90 => absurd c_90 (by decide))
          refine z_iinc1 g dX10_formOn_134 rfl (by rw [hN]; decide) ?_
          refine z_goto (tgt := 36) g dX10_formOn_137 (by decide) ?_
          have hn9 : ¬ PP (σ j) = true := fun z => by
            have z2 := ((lawP_iff2 hPP) (σ j)).mp z
            first | exact c_68 z2.1 | exact z2.2.1 c_78 | exact z2.2.2.1 c_103 | exact z2.2.2.2.1 c_112 | exact z2.2.2.2.2 c_122
          have hs := ih (m - 1) (by omega) (j + 1) (by omega)
          rw [show kyA S σ (j + 1) = lkey S (σ j) + 1 from rfl, ky_stay hL s1 s2 s3 hj9 hn9] at hs
          rw [nI_s]
          exact z_to hs ⟨rfl, rfl, rfl, rfl, rfl, rfl, rfl, rfl, rfl, trivial⟩
        · refine z_aload g dX10_formOn_71 rfl ?_
          refine z_getI g fl_X10_379 (by assumption) (by decide) rfl dX10_formOn_73 ?_
          rw [w2]
          refine z_iload g dX10_formOn_76 rfl ?_
          refine z_icmp_gt (tgt := 85) g dX10_formOn_78 (by decide) (fun c_78 => ?_) (fun c_78 => ?_)
          · refine z_iconst (v := 0) g dX10_formOn_85 (by decide) ?_
            refine z_istore g dX10_formOn_86 (by rw [hN]; decide) ?_
            refine z_iload g dX10_formOn_88 rfl ?_
            refine z_if_eq (tgt := 134) g dX10_formOn_90 (by decide) (fun _ => ?_) (fun c_90 => absurd c_90 (by decide))
            refine z_iinc1 g dX10_formOn_134 rfl (by rw [hN]; decide) ?_
            refine z_goto (tgt := 36) g dX10_formOn_137 (by decide) ?_
            have hn9 : ¬ PP (σ j) = true := fun z => by
              have z2 := ((lawP_iff2 hPP) (σ j)).mp z
              first | exact c_68 z2.1 | exact z2.2.1 c_78 | exact z2.2.2.1 c_103 | exact z2.2.2.2.1 c_112 | exact z2.2.2.2.2 c_122
            have hs := ih (m - 1) (by omega) (j + 1) (by omega)
            rw [show kyA S σ (j + 1) = lkey S (σ j) + 1 from rfl, ky_stay hL s1 s2 s3 hj9 hn9] at hs
            rw [nI_s]
            exact z_to hs ⟨rfl, rfl, rfl, rfl, rfl, rfl, rfl, rfl, rfl, trivial⟩
          · refine z_iconst (v := 1) g dX10_formOn_81 (by decide) ?_
            refine z_goto (tgt := 86) g dX10_formOn_82 (by decide) ?_
            refine z_istore g dX10_formOn_86 (by rw [hN]; decide) ?_
            refine z_iload g dX10_formOn_88 rfl ?_
            refine z_if_eq (tgt := 134) g dX10_formOn_90 (by decide) (fun c_90 => absurd c_90 (by decide)) (fun _ => ?_)
            refine z_aload g dX10_formOn_93 rfl ?_
            refine z_getI g fl_X10_369 (by assumption) (by decide) rfl dX10_formOn_95 ?_
            rw [w1]
            refine z_aload g dX10_formOn_98 rfl ?_
            refine z_getI g fl_X10_382 (by assumption) (by decide) rfl dX10_formOn_100 ?_
            rw [hnd]
            refine z_icmp_le (tgt := 134) g dX10_formOn_103 (by decide) (fun c_103 => ?_) (fun c_103 => ?_)
            · refine z_iinc1 g dX10_formOn_134 rfl (by rw [hN]; decide) ?_
              refine z_goto (tgt := 36) g dX10_formOn_137 (by decide) ?_
              have hn9 : ¬ PP (σ j) = true := fun z => by
                have z2 := ((lawP_iff2 hPP) (σ j)).mp z
                first | exact c_68 z2.1 | exact z2.2.1 c_78 | exact z2.2.2.1 c_103 | exact z2.2.2.2.1 c_112 | exact z2.2.2.2.2 c_122
              have hs := ih (m - 1) (by omega) (j + 1) (by omega)
              rw [show kyA S σ (j + 1) = lkey S (σ j) + 1 from rfl, ky_stay hL s1 s2 s3 hj9 hn9] at hs
              rw [nI_s]
              exact z_to hs ⟨rfl, rfl, rfl, rfl, rfl, rfl, rfl, rfl, rfl, trivial⟩
            · refine z_aload g dX10_formOn_106 rfl ?_
              refine z_getI g fl_X10_369 (by assumption) (by decide) rfl dX10_formOn_108 ?_
              rw [w1]
              refine z_iload_n g dX10_formOn_111 rfl ?_
              refine z_icmp_gt (tgt := 134) g dX10_formOn_112 (by decide) (fun c_112 => ?_) (fun c_112 => ?_)
              · refine z_iinc1 g dX10_formOn_134 rfl (by rw [hN]; decide) ?_
                refine z_goto (tgt := 36) g dX10_formOn_137 (by decide) ?_
                have hn9 : ¬ PP (σ j) = true := fun z => by
                  have z2 := ((lawP_iff2 hPP) (σ j)).mp z
                  first | exact c_68 z2.1 | exact z2.2.1 c_78 | exact z2.2.2.1 c_103 | exact z2.2.2.2.1 c_112 | exact z2.2.2.2.2 c_122
                have hs := ih (m - 1) (by omega) (j + 1) (by omega)
                rw [show kyA S σ (j + 1) = lkey S (σ j) + 1 from rfl, ky_stay hL s1 s2 s3 hj9 hn9] at hs
                rw [nI_s]
                exact z_to hs ⟨rfl, rfl, rfl, rfl, rfl, rfl, rfl, rfl, rfl, trivial⟩
              · refine z_aload g dX10_formOn_115 rfl ?_
                refine z_getI g fl_X10_369 (by assumption) (by decide) rfl dX10_formOn_117 ?_
                rw [w1]
                refine z_iload g dX10_formOn_120 rfl ?_
                refine z_icmp_ge (tgt := 134) g dX10_formOn_122 (by decide) (fun c_122 => ?_) (fun c_122 => ?_)
                · refine z_iinc1 g dX10_formOn_134 rfl (by rw [hN]; decide) ?_
                  refine z_goto (tgt := 36) g dX10_formOn_137 (by decide) ?_
                  have hn9 : ¬ PP (σ j) = true := fun z => by
                    have z2 := ((lawP_iff2 hPP) (σ j)).mp z
                    first | exact c_68 z2.1 | exact z2.2.1 c_78 | exact z2.2.2.1 c_103 | exact z2.2.2.2.1 c_112 | exact z2.2.2.2.2 c_122
                  have hs := ih (m - 1) (by omega) (j + 1) (by omega)
                  rw [show kyA S σ (j + 1) = lkey S (σ j) + 1 from rfl, ky_stay hL s1 s2 s3 hj9 hn9] at hs
                  rw [nI_s]
                  exact z_to hs ⟨rfl, rfl, rfl, rfl, rfl, rfl, rfl, rfl, rfl, trivial⟩
                · refine z_aload g dX10_formOn_125 rfl ?_
                  refine z_lload g dX10_formOn_127 rfl ?_
                  refine z_callV g _ _ cv_X10_383 (c_chg _ M (elt M (B 401 0) j) (prc S PP u (kyA S σ j)).reverse kel (LW.rev (prc_LW hL hu _)) (w3.trans y27) (w4.trans y28) (w5.trans y29) y27b y28b y29b) (by assumption) (by decide) rfl (by rw [hR]; decide) (by rw [hR]; decide) (by rw [hR]; decide) (Nat.le_of_ble_eq_true rfl) rfl dX10_formOn_129 (fun _ _ h => False.elim h) (fun r_129 M_129 h_129 => ?_)
                  obtain ⟨rfl, rfl⟩ := h_129
                  have hp9 : PP (σ j) = true := ((lawP_iff2 hPP) (σ j)).mpr ⟨c_68, c_78, c_103, c_112, c_122⟩
                  rw [chg_apl y0 (LW.rev (prc_LW hL hu _)), List.reverse_reverse, show apl (ca S 27 (σ j)) (ca S 28 (σ j)) (ca S 29 (σ j)) (prc S PP u (kyA S σ j)) = prc S PP u (kyA S σ (j + 1)) from (ky_next hL s1 s2 s3 hj9 hp9).symm]
                  refine z_lstore g dX10_formOn_132 (by rw [hN]; decide) ?_
                  refine z_iinc1 g dX10_formOn_134 rfl (by rw [hN]; decide) ?_
                  refine z_goto (tgt := 36) g dX10_formOn_137 (by decide) ?_
                  have hs := ih (m - 1) (by omega) (j + 1) (by omega)
                  rw [nI_s]
                  exact z_to hs ⟨rfl, rfl, rfl, rfl, rfl, rfl, rfl, rfl, rfl, trivial⟩
    refine z_astore g dX10_formOn_8 (by rw [hN]; decide) ?_
    refine z_aload g dX10_formOn_10 rfl ?_
    refine z_ifnonnull (tgt := 17) g dX10_formOn_12 (by decide) ?_
    refine z_aload_n g dX10_formOn_17 rfl ?_
    refine z_iload_n g dX10_formOn_18 rfl ?_
    refine z_iload g dX10_formOn_19 rfl ?_
    refine z_callV g _ _ cv_X10_374 (j_exA _ M hX0 hV f hf t k) (by assumption) (by decide) rfl (by rw [hR]; decide) (by rw [hR]; decide) (by rw [hR]; decide) (Nat.le_of_ble_eq_true rfl) rfl dX10_formOn_21 (fun _ _ h => False.elim h) (fun r_21 M_21 h_21 => ?_)
    obtain ⟨rfl, rfl⟩ := h_21
    rw [hex]
    refine z_istore g dX10_formOn_24 (by rw [hN]; decide) ?_
    refine z_aload g dX10_formOn_26 rfl ?_
    refine z_getL g fl_X10_377 k7 (by decide) rfl dX10_formOn_28 ?_
    rw [hnw, hnw2, ← hu0]
    refine z_lstore g dX10_formOn_31 (by rw [hN]; decide) ?_
    refine z_iconst (v := 0) g dX10_formOn_33 (by decide) ?_
    refine z_istore g dX10_formOn_34 (by rw [hN]; decide) ?_
    have hs := loop (cn S 24) 0 rfl
    exact z_to hs ⟨rfl, rfl, rfl, rfl, rfl, rfl, rfl, rfl, rfl, trivial⟩
set_option maxHeartbeats 4000000 in
set_option maxRecDepth 100000 in
theorem j_seen (E : Ev) {B : Nat → Nat → Nat} {x : Nat} {S : Ms} (M : Mm) (hX : RY B x S M) (hV : INV S) (f : Nat) (hf : f < cn S 2) (t : Int32) : CT E yX10_seenBy cX10_seenBy 6 (some .long) 6 0 0 [.ref x, .ref (B 4 f), .int t] M (ansL (sneA S f t) M) noX := by
  refine CT.of rfl (Nat.le_of_ble_eq_true rfl) (fun X g hrt hno hE hN hR hI => ?_)
  subst hE
  have hX0 := hX
  obtain ⟨qx, qs, qf, qd, qg, qh, qp, qw, qm, qe, ql, qq, qt, qr, qc, qo, qi⟩ := hX
  have k11 : kd M x % 1000 = 11 := by rw [qx.1]
  have k4 : kd M (B 4 f) % 1000 = 4 := qf.k4 hf
  obtain ⟨-, -, ⟨fk0, fk1⟩, ⟨g2, g3, g4, g5, g6⟩, ⟨k5a, k5b, -⟩, e5a, e5b, l170⟩ := qf.2 f hf
  have k5a1 : kd M (B 5 (2 * f)) % 1000 = 5 := by rw [k5a]; omega
  have k5b1 : kd M (B 5 (2 * f + 1)) % 1000 = 5 := by rw [k5b]; omega
  have k170 : kd M (B 170 f) % 1000 = 170 := qf.k170 hf
  refine z_aload_n g dX10_seenBy_0 rfl ?_
  refine z_callV g _ _ cv_X10_389 (c_isDsp _ M (B 4 f) k4) (by assumption) (by decide) rfl (by rw [hR]; decide) (by rw [hR]; decide) (by rw [hR]; decide) (Nat.le_of_ble_eq_true rfl) rfl dX10_seenBy_1 (fun _ _ h => False.elim h) (fun r_1 M_1 h_1 => ?_)
  obtain ⟨rfl, rfl⟩ := h_1
  rw [(qg f hf).1, (qg f hf).2]
  refine z_if_eq (tgt := 26) g dX10_seenBy_4 (by decide) (fun c_4 => ?_) (fun c_4 => ?_)
  · refine z_aload_n g dX10_seenBy_26 rfl ?_
    refine z_aload_n g dX10_seenBy_27 rfl ?_
    refine z_iload_n g dX10_seenBy_28 rfl ?_
    refine z_aload_n g dX10_seenBy_29 rfl ?_
    refine z_getI g fl_X10_76 (by assumption) (by decide) rfl dX10_seenBy_30 ?_
    rw [show fI M x 10 = gi S 1 from qs.1]
    refine z_aload_n g dX10_seenBy_33 rfl ?_
    refine z_getI g fl_X10_76 (by assumption) (by decide) rfl dX10_seenBy_34 ?_
    rw [show fI M x 10 = gi S 1 from qs.1]
    refine z_callV g _ _ cv_X10_193 (j_form _ M hX0 hV f hf t (gi S 1) (gi S 1)) (by assumption) (by decide) rfl (by rw [hR]; decide) (by rw [hR]; decide) (by rw [hR]; decide) (Nat.le_of_ble_eq_true rfl) rfl dX10_seenBy_37 (fun _ _ h => False.elim h) (fun r_37 M_37 h_37 => ?_)
    obtain ⟨rfl, rfl⟩ := h_37
    refine z_lstore_n g dX10_seenBy_40 (by rw [hN]; decide) ?_
    refine z_iconst (v := 0) g dX10_seenBy_41 (by decide) ?_
    refine z_istore g dX10_seenBy_42 (by rw [hN]; decide) ?_
    have hsame : gA S 48 f = gA S 49 f := by
      have h4 := b2i_0.mp c_4
      rw [Bool.not_eq_false', decide_eq_true_iff] at h4; exact h4
    have loop : ∀ (k j : Nat) (hk : k + j = 4), Z X M 0 0 44 [(0, .ref x), (1, .ref (B 4 f)), (2, .int t), (3, .long (snL S f (formA S (nI f) t (gi S 1) (gi S 1)) j)), (5, .int (nI j))] [] := by
      intro k
      induction k using Nat.strongRecOn with
      | _ k ih =>
        intro j hk
        refine z_iload g dX10_seenBy_44 rfl ?_
        refine z_iconst (v := 4) g dX10_seenBy_46 (by decide) ?_
        refine z_icmp_ge (tgt := 78) g dX10_seenBy_47 (by decide) (fun c_47 => ?_) (fun c_47 => ?_)
        · rw [show (4 : Int32) = nI 4 from rfl, nI_leI (by decide) (by omega)] at c_47
          refine z_lload_n g dX10_seenBy_78 rfl ?_
          exact z_lret g hrt (by decide) (by decide) dX10_seenBy_79 ⟨by unfold sneA; rw [if_pos hsame, show (4 : Nat) = j by omega], rfl⟩
        have h47 : j < 4 := by rw [show (4 : Int32) = nI 4 from rfl, nI_leI (by decide) (by omega)] at c_47; omega
        refine z_lload_n g dX10_seenBy_50 rfl ?_
        refine z_lconst (v := 0) g dX10_seenBy_51 (by decide) ?_
        refine z_lcmp g dX10_seenBy_52 ?_
        refine z_if_ne (tgt := 78) g dX10_seenBy_53 (by decide) (fun c_53 => ?_) (fun c_53 => ?_)
        · refine z_lload_n g dX10_seenBy_78 rfl ?_
          exact z_lret g hrt (by decide) (by decide) dX10_seenBy_79 ⟨by unfold sneA; rw [if_pos hsame, snL_stay (fun z => c_53 ((lg_cmp_eq _ _).mpr z)) 4 (by omega)], rfl⟩
        · refine z_aload_n g dX10_seenBy_56 rfl ?_
          refine z_aload_n g dX10_seenBy_57 rfl ?_
          refine z_iload g dX10_seenBy_58 rfl ?_
          refine z_aload_n g dX10_seenBy_60 rfl ?_
          refine z_getI g fl_X10_76 (by assumption) (by decide) rfl dX10_seenBy_61 ?_
          rw [show fI M x 10 = gi S 1 from qs.1]
          refine z_aload_n g dX10_seenBy_64 rfl ?_
          refine z_getI g fl_X10_76 (by assumption) (by decide) rfl dX10_seenBy_65 ?_
          rw [show fI M x 10 = gi S 1 from qs.1]
          refine z_callV g _ _ cv_X10_193 (j_form _ M hX0 hV f hf (nI j) (gi S 1) (gi S 1)) (by assumption) (by decide) rfl (by rw [hR]; decide) (by rw [hR]; decide) (by rw [hR]; decide) (Nat.le_of_ble_eq_true rfl) rfl dX10_seenBy_68 (fun _ _ h => False.elim h) (fun r_68 M_68 h_68 => ?_)
          obtain ⟨rfl, rfl⟩ := h_68
          refine z_lstore_n g dX10_seenBy_71 (by rw [hN]; decide) ?_
          refine z_iinc1 g dX10_seenBy_72 rfl (by rw [hN]; decide) ?_
          refine z_goto (tgt := 44) g dX10_seenBy_75 (by decide) ?_
          have hs := ih (k - 1) (by omega) (j + 1) (by omega)
          rw [snL, if_pos ((lg_cmp_eq _ _).mp c_53)] at hs
          rw [nI_s]
          exact z_to hs ⟨rfl, rfl, rfl, rfl, rfl, trivial⟩
    exact z_to (loop 4 0 rfl) ⟨rfl, rfl, rfl, rfl, rfl, trivial⟩
  · refine z_aload_n g dX10_seenBy_7 rfl ?_
    refine z_aload_n g dX10_seenBy_8 rfl ?_
    refine z_aload_n g dX10_seenBy_9 rfl ?_
    refine z_iload_n g dX10_seenBy_10 rfl ?_
    refine z_callV g _ _ cv_X10_392 (c_dTg _ M (B 4 f) k4 t) (by assumption) (by decide) rfl (by rw [hR]; decide) (by rw [hR]; decide) (by rw [hR]; decide) (Nat.le_of_ble_eq_true rfl) rfl dX10_seenBy_11 (fun _ _ h => False.elim h) (fun r_11 M_11 h_11 => ?_)
    obtain ⟨rfl, rfl⟩ := h_11
    rw [dTg_sn qg hf]
    refine z_aload_n g dX10_seenBy_14 rfl ?_
    refine z_getI g fl_X10_76 (by assumption) (by decide) rfl dX10_seenBy_15 ?_
    rw [show fI M x 10 = gi S 1 from qs.1]
    refine z_aload_n g dX10_seenBy_18 rfl ?_
    refine z_getI g fl_X10_76 (by assumption) (by decide) rfl dX10_seenBy_19 ?_
    rw [show fI M x 10 = gi S 1 from qs.1]
    refine z_callV g _ _ cv_X10_193 (j_form _ M hX0 hV f hf _ (gi S 1) (gi S 1)) (by assumption) (by decide) rfl (by rw [hR]; decide) (by rw [hR]; decide) (by rw [hR]; decide) (Nat.le_of_ble_eq_true rfl) rfl dX10_seenBy_22 (fun _ _ h => False.elim h) (fun r_22 M_22 h_22 => ?_)
    obtain ⟨rfl, rfl⟩ := h_22
    exact z_lret g hrt (by decide) (by decide) dX10_seenBy_25 ⟨by have h4 := b2i_n0.mp c_4; rw [Bool.not_eq_true', decide_eq_false_iff_not] at h4; unfold sneA; rw [if_neg h4], rfl⟩
