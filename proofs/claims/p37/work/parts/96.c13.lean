theorem pl_ex {p q : Int32} (h : plB2 p q = true) : ∃ a b : Nat, a ≤ 99 ∧ b ≤ 99 ∧ p = nI a ∧ q = nI b := by
  unfold plB2 at h
  rw [Bool.and_eq_true] at h
  obtain ⟨a, -, h1, h2⟩ := inb (a := 0) (b := 99) (v := p) (by decide) h.1 (by decide)
  obtain ⟨b, -, h3, h4⟩ := inb (a := 0) (b := 99) (v := q) (by decide) h.2 (by decide)
  exact ⟨a, b, h1, h3, h2, h4⟩
set_option maxHeartbeats 4000000 in
set_option maxRecDepth 100000 in
theorem k_find (E : Ev) {B : Nat → Nat → Nat} {x : Nat} {S : Ms} (M : Mm) (hX : RX B x S M) (hV : INV S) (w : Int64) (p q y : Int32) : CT E yX10_find cX10_find 7 (some .int) 10 16 500 [.ref x, .long w, .int p, .int q, .int y] M (fun r M' => cFind S w p q y = 0 ∧ r = (some (.int (vFind S w p q y))) ∧ agr TC M M' ∧ ∃ B', RX B' x (sFind S w p q y) M') (fun E9 M' => M = M' ∧ ((cFind S w p q y = 1 ∧ E9 = IOE) ∨ (cFind S w p q y = 2 ∧ E9 = IAE))) := by
  refine CT.of rfl (Nat.le_of_ble_eq_true rfl) (fun X g hrt hno hE hN hR hI => ?_)
  subst hE
  have hX0 := hX
  obtain ⟨qx, qs, qf, qd, qg, qh, qp, qw, qm, qe, ql, qq, qt, qr, qc, qo, qi⟩ := hX
  have k11 : kd M x % 1000 = 11 := by rw [qx.1]
  have r0 : fR M x 0 = some (B 400 0) := (qx.2.1 0 (by decide)).1
  have r8 : fR M x 8 = some (B 176 0) := (qx.2.1 8 (by decide)).1
  have kl0 : kd M (B 400 0) = 400 := (qx.2.1 0 (by decide)).2
  have l0 : LK M (B 400 0) 4 := qf.LK kl0 hV.c2
  have m0 := l0.1
  have n0 : ln M (B 400 0) = cn S 2 := qf.1
  have b0 := l0.2.1
  rw [n0] at b0
  have e176 : kd M (B 176 0) = 176 := qx.k 8 (by decide)
  have K176 : kd M (B 176 0) % 1000 = 176 := by rw [e176]
  have l176 : ln M (B 176 0) = 24 := qx.2.2.2.2.1
  have hx6 : x ≠ B 176 0 := fun z => by have := qx.1; rw [z, e176] at this; cases this
  have b24 := hV.c2
  refine z_iload g dX10_find_0 rfl ?_
  refine z_if_ge (tgt := 16) g dX10_find_2 (by decide) (fun c_2 => ?_) (fun c_2 => ?_)
  rotate_left
  · exact z_throw (text := "no such rank") g hrt hno ["java/lang/RuntimeException", "java/lang/Exception"] (by decide) (by decide) cl_X10_327 ini_IOE (by decide) thr_IOE (thg_IOE 327) dX10_find_5 dX10_find_8 dX10_find_9 dX10_find_12 dX10_find_15 (by rw [hR]; decide) (by rw [hR]; decide) (by rw [hR]; decide) (by rw [hR]; decide) (by decide) (by decide) ⟨rfl, Or.inl ⟨by unfold cFind; rw [if_pos c_2], rfl⟩⟩
  refine z_lload_n g dX10_find_16 rfl ?_
  refine z_bipush (v := 12) g dX10_find_17 (by decide) ?_
  refine z_callS g _ _ cs_X10_147 (c_isWd _ M w 12 (by decide)) rfl (by rw [hR]; decide) (by rw [hR]; decide) (by rw [hR]; decide) (Nat.le_of_ble_eq_true rfl) rfl dX10_find_19 (fun _ _ h => False.elim h) (fun r_19 M_19 h_19 => ?_)
  obtain ⟨rfl, rfl⟩ := h_19
  refine z_if_eq (tgt := 38) g dX10_find_22 (by decide) (fun c_22 => ?_) (fun c_22 => ?_)
  · first | rw [b2i_n0] at c_22 | rw [b2i_0] at c_22 | skip
    refine z_iconst (v := 0) g dX10_find_38 (by decide) ?_
    exact z_callS g _ _ cs_X10_63 (c_needArg _ M false) rfl (by rw [hR]; decide) (by rw [hR]; decide) (by rw [hR]; decide) (Nat.le_of_ble_eq_true rfl) rfl dX10_find_39 (fun E9 M9 h9 => by obtain ⟨-, rfl, rfl⟩ := h9; exact zx_out g hrt hno (by decide) (by decide) ⟨rfl, Or.inr (⟨by simp [cFind, eq_true c_2, c_22], rfl⟩)⟩) (fun _ _ h => by cases h.1)
  · first | rw [b2i_n0] at c_22 | rw [b2i_0] at c_22 | skip
    refine z_iload_n g dX10_find_25 rfl ?_
    refine z_iload g dX10_find_26 rfl ?_
    refine z_callS g _ _ cs_X10_59 (c_isPl _ M p q) rfl (by rw [hR]; decide) (by rw [hR]; decide) (by rw [hR]; decide) (Nat.le_of_ble_eq_true rfl) rfl dX10_find_28 (fun _ _ h => False.elim h) (fun r_28 M_28 h_28 => ?_)
    obtain ⟨rfl, rfl⟩ := h_28
    rw [plB_e]
    refine z_if_eq (tgt := 38) g dX10_find_31 (by decide) (fun c_31 => ?_) (fun c_31 => ?_)
    · first | rw [b2i_n0] at c_31 | rw [b2i_0] at c_31 | skip
      refine z_iconst (v := 0) g dX10_find_38 (by decide) ?_
      exact z_callS g _ _ cs_X10_63 (c_needArg _ M false) rfl (by rw [hR]; decide) (by rw [hR]; decide) (by rw [hR]; decide) (Nat.le_of_ble_eq_true rfl) rfl dX10_find_39 (fun E9 M9 h9 => by obtain ⟨-, rfl, rfl⟩ := h9; exact zx_out g hrt hno (by decide) (by decide) ⟨rfl, Or.inr (⟨by simp [cFind, eq_true c_2, c_22, c_31], rfl⟩)⟩) (fun _ _ h => by cases h.1)
    · first | rw [b2i_n0] at c_31 | rw [b2i_0] at c_31 | skip
      refine z_iconst (v := 1) g dX10_find_34 (by decide) ?_
      refine z_goto (tgt := 39) g dX10_find_35 (by decide) ?_
      refine z_callS g _ _ cs_X10_63 (c_needArg _ M true) rfl (by rw [hR]; decide) (by rw [hR]; decide) (by rw [hR]; decide) (Nat.le_of_ble_eq_true rfl) rfl dX10_find_39 (fun _ _ h => by cases h.1) (fun r_39 M_39 h_39 => ?_)
      obtain ⟨-, rfl, rfl⟩ := h_39
      have hc0 : cFind S w p q y = 0 := by simp [cFind, eq_true c_2, c_22, c_31]
      obtain ⟨pn, qn, hp9, hq9, rfl, rfl⟩ := pl_ex c_31
      obtain ⟨rr, hr31, rfl⟩ := nI_of (x := y) (fun z => Int32.lt_irrefl (Int32.lt_of_lt_of_le z c_2))
      have mid : ∀ (G : Nat → Int32) (hg1 : ∀ u, u < cn S 2 → G u = skA S w (nI pn) (nI qn) u) (hg2 : ∀ u, cn S 2 ≤ u → u < 24 → G u = -1), Z X (rowI M (B 176 0) G) 1 6 106 [(0, .ref x), (5, .int (nI rr))] [] := by
        intro G hg1 hg2
        have loop2 : ∀ (k i : Nat) (hk : k + i = 24) (hno2 : ∀ u, u < i → ¬ G u = -1 → cfA G (G u) 24 ≠ rr), Z X (rowI M (B 176 0) G) 1 6 109 [(0, .ref x), (5, .int (nI rr)), (6, .int (nI i))] [] := by
          intro k
          induction k using Nat.strongRecOn with
          | _ k ih =>
            intro i hk hno2
            refine z_iload g dX10_find_109 rfl ?_
            refine z_aload_n g dX10_find_111 rfl ?_
            refine z_getR g fl_X10_42 k11 (by decide) rfl r8 dX10_find_112 ?_
            refine z_alenIk (k := 176) g K176 (by decide) dX10_find_115 ?_
            rw [show ln (rowI M (B 176 0) G) (B 176 0) = 24 from l176]
            refine z_icmp_ge (tgt := 155) g dX10_find_116 (by decide) (fun c_116 => ?_) (fun c_116 => ?_)
            · rw [nI_leI (by decide) (by omega)] at c_116
              refine z_iconst (v := -1) g dX10_find_155 (by decide) ?_
              exact z_iret g hrt rfl (by decide) (by decide) dX10_find_156 ⟨hc0, by rw [find_no hV hp9 hq9 hg1 hg2 hr31 (fun u hu => hno2 u (by omega))], agr.rowI (fun k => by rw [e176]; unfold TC; omega), B, RX_wi0 0 (hX0.row hV e176 (by omega) G)⟩
            have h116 : i < 24 := by rw [nI_leI (by decide) (by omega)] at c_116; omega
            refine z_aload_n g dX10_find_119 rfl ?_
            refine z_getR g fl_X10_42 k11 (by decide) rfl r8 dX10_find_120 ?_
            refine z_iload g dX10_find_123 rfl ?_
            refine z_ialdk (k := 176) g K176 (by decide) (vp_in_nI (by show _ < ln M (B 176 0); omega) (by show ln M (B 176 0) < _; omega)) dX10_find_125 ?_
            rw [nI_clamp (by omega), rowI_s]
            refine z_iconst (v := (-1)) g dX10_find_126 (by decide) ?_
            refine z_icmp_eq (tgt := 149) g dX10_find_127 (by decide) (fun c_127 => ?_) (fun c_127 => ?_)
            · refine z_iinc1 g dX10_find_149 rfl (by rw [hN]; decide) ?_
              refine z_goto (tgt := 109) g dX10_find_152 (by decide) ?_
              rw [nI_s]
              refine z_to (ih (k - 1) (by omega) (i + 1) (by omega) (fun u hu hgu hcu => ?_)) ⟨rfl, rfl, rfl, trivial⟩
              rcases Nat.lt_or_ge u i with z | z
              · exact hno2 u z hgu hcu
              · have e : u = i := by omega
                subst e
                first
                  | exact hgu c_127
                  | exact c_143 (by rw [hcu])
            · refine z_aload_n g dX10_find_130 rfl ?_
              refine z_aload_n g dX10_find_131 rfl ?_
              refine z_getR g fl_X10_42 k11 (by decide) rfl r8 dX10_find_132 ?_
              refine z_iload g dX10_find_135 rfl ?_
              refine z_ialdk (k := 176) g K176 (by decide) (vp_in_nI (by show _ < ln M (B 176 0); omega) (by show ln M (B 176 0) < _; omega)) dX10_find_137 ?_
              rw [nI_clamp (by omega), rowI_s]
              refine z_callV g _ _ cv_X10_338 (k_cfa _ (rowI M (B 176 0) G) k11 r8 K176 l176 (G i)) k11 (by decide) rfl (by rw [hR]; decide) (by rw [hR]; decide) (by rw [hR]; decide) (Nat.le_of_ble_eq_true rfl) rfl dX10_find_138 (fun _ _ h => False.elim h) (fun r_138 M_138 h_138 => ?_)
              obtain ⟨rfl, rfl⟩ := h_138
              rw [rowI_s]
              refine z_iload g dX10_find_141 rfl ?_
              refine z_icmp_ne (tgt := 149) g dX10_find_143 (by decide) (fun c_143 => ?_) (fun c_143 => ?_)
              · refine z_iinc1 g dX10_find_149 rfl (by rw [hN]; decide) ?_
                refine z_goto (tgt := 109) g dX10_find_152 (by decide) ?_
                rw [nI_s]
                refine z_to (ih (k - 1) (by omega) (i + 1) (by omega) (fun u hu hgu hcu => ?_)) ⟨rfl, rfl, rfl, trivial⟩
                rcases Nat.lt_or_ge u i with z | z
                · exact hno2 u z hgu hcu
                · have e : u = i := by omega
                  subst e
                  first
                    | exact hgu c_127
                    | exact c_143 (by rw [hcu])
              · refine z_iload g dX10_find_146 rfl ?_
                exact z_iret g hrt rfl (by decide) (by decide) dX10_find_148 ⟨hc0, by rw [find_at hV hp9 hq9 hg1 hg2 h116 hr31 c_127 (by rw [nI_eq (by have := cfA_le G (G i) 24; omega) hr31] at c_143; exact c_143)], agr.rowI (fun k => by rw [e176]; unfold TC; omega), B, RX_wi0 0 (hX0.row hV e176 (by omega) G)⟩
        refine z_iconst (v := 0) g dX10_find_106 (by decide) ?_
        refine z_istore g dX10_find_107 (by rw [hN]; decide) ?_
        exact z_to (loop2 24 0 rfl (fun u hu => absurd hu (Nat.not_lt_zero u))) ⟨rfl, rfl, rfl, trivial⟩
      have loop1 : ∀ (k i : Nat) (G : Nat → Int32) (hk : k + i = 24) (hlo1 : ∀ u, u < i → u < cn S 2 → G u = skA S w (nI pn) (nI qn) u) (hlo2 : ∀ u, u < i → cn S 2 ≤ u → G u = -1), Z X (rowI M (B 176 0) G) 1 6 45 [(0, .ref x), (1, .long w), (3, .int (nI pn)), (4, .int (nI qn)), (5, .int (nI rr)), (6, .int (nI i))] [] := by
        intro k
        induction k using Nat.strongRecOn with
        | _ k ih =>
          intro i G hk hlo1 hlo2
          refine z_iload g dX10_find_45 rfl ?_
          refine z_aload_n g dX10_find_47 rfl ?_
          refine z_getR g fl_X10_42 k11 (by decide) rfl r8 dX10_find_48 ?_
          refine z_alenIk (k := 176) g K176 (by decide) dX10_find_51 ?_
          rw [show ln (rowI M (B 176 0) G) (B 176 0) = 24 from l176]
          refine z_icmp_ge (tgt := 106) g dX10_find_52 (by decide) (fun c_52 => ?_) (fun c_52 => ?_)
          · rw [nI_leI (by decide) (by omega)] at c_52
            exact z_to (mid G (fun u hu => hlo1 u (by omega) hu) (fun u h1 h2 => hlo2 u (by omega) h1)) ⟨rfl, rfl, trivial⟩
          have h52 : i < 24 := by rw [nI_leI (by decide) (by omega)] at c_52; omega
          have l0G : LK (rowI M (B 176 0) G) (B 400 0) 4 := l0
          refine z_aload_n g dX10_find_55 rfl ?_
          refine z_getR g fl_X10_42 k11 (by decide) rfl r8 dX10_find_56 ?_
          refine z_iload g dX10_find_59 rfl ?_
          refine z_iload g dX10_find_61 rfl ?_
          refine z_aload_n g dX10_find_63 rfl ?_
          refine z_getR g fl_X10_10 k11 (by decide) rfl r0 dX10_find_64 ?_
          refine z_callL g _ _ cv_X10_67 rfl (c_alsize _ (rowI M (B 176 0) G) (B 400 0) l0.1) (by assumption) rfl (by rw [hR]; decide) (by rw [hR]; decide) (by rw [hR]; decide) (Nat.le_of_ble_eq_true rfl) rfl dX10_find_67 (fun _ _ h => False.elim h) (fun r_67 M_67 h_67 => ?_)
          obtain ⟨rfl, rfl⟩ := h_67
          rw [show ln (rowI M (B 176 0) G) (B 400 0) = cn S 2 from n0]
          refine z_icmp_ge (tgt := 98) g dX10_find_70 (by decide) (fun c_70 => ?_) (fun c_70 => ?_)
          · rw [nI_leI (by omega) (by omega)] at c_70
            refine z_iconst (v := (-1)) g dX10_find_98 (by decide) ?_
            refine z_iastk (k := 176) g K176 (by decide) (vp_in_nI (by show _ < ln M (B 176 0); omega) (by show ln M (B 176 0) < _; omega)) dX10_find_99 ?_
            rw [nI_clamp (by omega), sI_row, rowI_s, rowI_rowI]
            refine z_iinc1 g dX10_find_100 rfl (by rw [hN]; decide) ?_
            refine z_goto (tgt := 45) g dX10_find_103 (by decide) ?_
            rw [nI_s]
            refine z_to (ih (k - 1) (by omega) (i + 1) (pu G i (-1)) (by omega) (fun u hu h2 => ?_) (fun u hu h2 => ?_)) ⟨rfl, rfl, rfl, rfl, rfl, rfl, trivial⟩
            · unfold pu
              by_cases e : u = i
              · rw [if_pos e, e]; exfalso; omega
              · rw [if_neg e]; exact hlo1 u (by omega) h2
            · unfold pu
              by_cases e : u = i
              · rw [if_pos e]; first | done | rfl
              · rw [if_neg e]; exact hlo2 u (by omega) h2
          have hi : i < cn S 2 := by rw [nI_leI (by omega) (by omega)] at c_70; omega
          refine z_aload_n g dX10_find_73 rfl ?_
          refine z_iload g dX10_find_74 rfl ?_
          refine z_aload_n g dX10_find_76 rfl ?_
          refine z_getR g fl_X10_10 k11 (by decide) rfl r0 dX10_find_77 ?_
          refine z_iload g dX10_find_80 rfl ?_
          refine z_callL g _ _ cv_X10_310 rfl (c_getL _ (rowI M (B 176 0) G) (B 400 0) i l0G (by show i < ln M (B 400 0); rw [n0]; exact hi)) (by assumption) rfl (by rw [hR]; decide) (by rw [hR]; decide) (by rw [hR]; decide) (Nat.le_of_ble_eq_true rfl) rfl dX10_find_82 (fun _ _ h => False.elim h) (fun r_82 M_82 h_82 => ?_)
          obtain ⟨rfl, rfl⟩ := h_82
          rw [show elt (rowI M (B 176 0) G) (B 400 0) i = B 4 i from qf.at4 hi]
          refine z_cast (b := 4) g cl_X10_74 rfl (show kd M (B 4 i) % 1000 = 4 from qf.k4 hi) (by decide) dX10_find_85 ?_
          refine z_lload_n g dX10_find_88 rfl ?_
          refine z_iload_n g dX10_find_89 rfl ?_
          refine z_iload g dX10_find_90 rfl ?_
          refine z_callV g _ _ cv_X10_334 (k_skey _ (rowI M (B 176 0) G) (hX0.row hV e176 (by omega) G) hV i hi w (nI pn) (nI qn)) (by assumption) (by decide) rfl (by rw [hR]; decide) (by rw [hR]; decide) (by rw [hR]; decide) (Nat.le_of_ble_eq_true rfl) rfl dX10_find_92 (fun _ _ h => False.elim h) (fun r_92 M_92 h_92 => ?_)
          obtain ⟨rfl, rfl⟩ := h_92
          refine z_goto (tgt := 99) g dX10_find_95 (by decide) ?_
          refine z_iastk (k := 176) g K176 (by decide) (vp_in_nI (by show _ < ln M (B 176 0); omega) (by show ln M (B 176 0) < _; omega)) dX10_find_99 ?_
          rw [nI_clamp (by omega), sI_row, rowI_s, rowI_rowI]
          refine z_iinc1 g dX10_find_100 rfl (by rw [hN]; decide) ?_
          refine z_goto (tgt := 45) g dX10_find_103 (by decide) ?_
          rw [nI_s]
          refine z_to (ih (k - 1) (by omega) (i + 1) (pu G i (skA S w (nI pn) (nI qn) i)) (by omega) (fun u hu h2 => ?_) (fun u hu h2 => ?_)) ⟨rfl, rfl, rfl, rfl, rfl, rfl, trivial⟩
          · unfold pu
            by_cases e : u = i
            · rw [if_pos e, e]; first | done | rfl
            · rw [if_neg e]; exact hlo1 u (by omega) h2
          · unfold pu
            by_cases e : u = i
            · rw [if_pos e]; exfalso; omega
            · rw [if_neg e]; exact hlo2 u (by omega) h2
      refine z_iconst (v := 0) g dX10_find_42 (by decide) ?_
      refine z_istore g dX10_find_43 (by rw [hN]; decide) ?_
      rw [← rowI_self M (B 176 0)]
      exact z_to (loop1 24 0 _ rfl (fun u hu => absurd hu (Nat.not_lt_zero u)) (fun u hu => absurd hu (Nat.not_lt_zero u))) ⟨rfl, rfl, rfl, rfl, rfl, rfl, trivial⟩
