/-! ===== the model: names, exceptions, ones, words (printed by gen/mod_d2.py) ===== -/
set_option maxHeartbeats 4000000 in
set_option maxRecDepth 100000 in
theorem n_nmA (E : Ev) {A : Nat → Nat} {m : Nat} {S : Ms} (M : Mm) (hM : RM A m S M) (hN17 : gi S 17 = nI (cn S 17)) (hB17 : cn S 17 ≤ 100) (f : Nat) (t d kn : Int32) : CT E yX11_nameAt cX11_nameAt 8 (some .int) 1 0 0 [.ref m, .int (nI f), .int t, .int d, .int kn] M (ansI (o2i 0 (nmA S (nI f) t d kn)) M) noX := by
  refine CT.of rfl (Nat.le_of_ble_eq_true rfl) (fun X g hrt hno hE hN hR hI => ?_)
  subst hE
  have loop : ∀ (k j : Nat) (hk : k + j = cn S 17), Z X M 0 0 6 [(0, .ref m), (1, .int (nI f)), (2, .int t), (3, .int d), (4, .int kn), (5, .int (o2i 0 ((bst (nP S (nI f) t d kn) (gA S 21) j)))), (6, .int (nI j))] [] := by
    intro k
    induction k using Nat.strongRecOn with
    | _ k ih =>
      intro j hk
      rcases ho : (bst (nP S (nI f) t d kn) (gA S 21) j) with _ | q
      · show Z X M 0 0 6 [(0, .ref m), (1, .int (nI f)), (2, .int t), (3, .int d), (4, .int kn), (5, .int (-1)), (6, .int (nI j))] []
        refine z_iload g dX11_nameAt_6 rfl ?_
        refine z_aload_n g dX11_nameAt_8 rfl ?_
        refine z_getI g fl_X11_201 hM.k0 (by decide) rfl dX11_nameAt_9 ?_
        rw [hM.sc (k := 17) (by decide) (by decide)]
        rw [hN17]
        refine z_icmp_ge (tgt := 133) g dX11_nameAt_12 (by decide) (fun c_12 => ?_) (fun c_12 => ?_)
        · rw [nI_leI (by omega) (by omega)] at c_12
          have hp : nmA S (nI f) t d kn = none := (show nmA S (nI f) t d kn = (bst (nP S (nI f) t d kn) (gA S 21) j) by rw [nmA, show j = cn S 17 by omega]).trans ho
          rw [hp] at hrt
          refine z_iload g dX11_nameAt_133 rfl ?_
          exact z_iret g hrt rfl (by decide) (by decide) dX11_nameAt_135 ⟨by first | rfl | (show _ = some (Value.int (nI (0 + q))); rw [Nat.zero_add]), rfl⟩
        have h12 : j < cn S 17 := by rw [nI_leI (by omega) (by omega)] at c_12; omega
        refine z_aload_n g dX11_nameAt_15 rfl ?_
        refine z_getR g fl_X11_52 hM.k0 (by decide) rfl (hM.ref (k := 18) (by decide)) dX11_nameAt_16 ?_
        refine z_iload g dX11_nameAt_19 rfl ?_
        refine z_ialdk g (hM.kA1 (k := 18) (by decide)) (by decide) (vp_in_nI (by rw [hM.lnI (k := 18) (by decide)]; show _ < 100; omega) (by rw [hM.lnI (k := 18) (by decide)]; decide)) dX11_nameAt_21 ?_
        rw [nI_clamp (by omega), hM.row (k := 18) (by decide) (by decide)]
        refine z_iload_n g dX11_nameAt_22 rfl ?_
        refine z_icmp_ne (tgt := 87) g dX11_nameAt_23 (by decide) (fun c_23 => ?_) (fun c_23 => ?_)
        · refine z_iconst (v := 0) g dX11_nameAt_87 (by decide) ?_
          refine z_istore g dX11_nameAt_88 (by rw [hN]; decide) ?_
          refine z_iload g dX11_nameAt_90 rfl ?_
          refine z_if_eq (tgt := 123) g dX11_nameAt_92 (by decide) (fun _ => ?_) (fun c_92 => absurd (by decide) c_92)
          refine z_iload g dX11_nameAt_123 rfl ?_
          refine z_istore g dX11_nameAt_125 (by rw [hN]; decide) ?_
          refine z_iinc1 g dX11_nameAt_127 rfl (by rw [hN]; decide) ?_
          refine z_goto (tgt := 6) g dX11_nameAt_130 (by decide) ?_
          have hs := ih (k - 1) (by omega) (j + 1) (by omega)
          rw [nI_s]
          first
            | (rw [show (bst (nP S (nI f) t d kn) (gA S 21) (j + 1)) = some j from if_pos ⟨by simp [nP, c_23], by rw [ho]; first | rfl | (show (!decide _) = true; rw [decide_eq_false c_115]; rfl)⟩] at hs
               rw [show o2i 0 (some j) = nI j by show nI (0 + j) = nI j; rw [Nat.zero_add]] at hs
               exact z_to hs ⟨rfl, rfl, rfl, rfl, rfl, rfl, rfl, trivial⟩)
            | (rw [show (bst (nP S (nI f) t d kn) (gA S 21) (j + 1)) = (bst (nP S (nI f) t d kn) (gA S 21) j) from if_neg (fun z => by first | (have z1 := z.1; simp [nP, c_23] at z1; done) | (have z9 := z.2; rw [ho] at z9; change (!decide _) = true at z9; rw [decide_eq_true c_115] at z9; cases z9)), ho] at hs
               try rw [show o2i 0 (some q) = nI q by show nI (0 + q) = nI q; rw [Nat.zero_add]] at hs
               exact z_to hs ⟨rfl, rfl, rfl, rfl, rfl, rfl, rfl, trivial⟩)
        · refine z_aload_n g dX11_nameAt_26 rfl ?_
          refine z_getR g fl_X11_55 hM.k0 (by decide) rfl (hM.ref (k := 19) (by decide)) dX11_nameAt_27 ?_
          refine z_iload g dX11_nameAt_30 rfl ?_
          refine z_ialdk g (hM.kA1 (k := 19) (by decide)) (by decide) (vp_in_nI (by rw [hM.lnI (k := 19) (by decide)]; show _ < 100; omega) (by rw [hM.lnI (k := 19) (by decide)]; decide)) dX11_nameAt_32 ?_
          rw [nI_clamp (by omega), hM.row (k := 19) (by decide) (by decide)]
          refine z_iload_n g dX11_nameAt_33 rfl ?_
          refine z_icmp_ne (tgt := 87) g dX11_nameAt_34 (by decide) (fun c_34 => ?_) (fun c_34 => ?_)
          · refine z_iconst (v := 0) g dX11_nameAt_87 (by decide) ?_
            refine z_istore g dX11_nameAt_88 (by rw [hN]; decide) ?_
            refine z_iload g dX11_nameAt_90 rfl ?_
            refine z_if_eq (tgt := 123) g dX11_nameAt_92 (by decide) (fun _ => ?_) (fun c_92 => absurd (by decide) c_92)
            refine z_iload g dX11_nameAt_123 rfl ?_
            refine z_istore g dX11_nameAt_125 (by rw [hN]; decide) ?_
            refine z_iinc1 g dX11_nameAt_127 rfl (by rw [hN]; decide) ?_
            refine z_goto (tgt := 6) g dX11_nameAt_130 (by decide) ?_
            have hs := ih (k - 1) (by omega) (j + 1) (by omega)
            rw [nI_s]
            first
              | (rw [show (bst (nP S (nI f) t d kn) (gA S 21) (j + 1)) = some j from if_pos ⟨by simp [nP, c_23, c_34], by rw [ho]; first | rfl | (show (!decide _) = true; rw [decide_eq_false c_115]; rfl)⟩] at hs
                 rw [show o2i 0 (some j) = nI j by show nI (0 + j) = nI j; rw [Nat.zero_add]] at hs
                 exact z_to hs ⟨rfl, rfl, rfl, rfl, rfl, rfl, rfl, trivial⟩)
              | (rw [show (bst (nP S (nI f) t d kn) (gA S 21) (j + 1)) = (bst (nP S (nI f) t d kn) (gA S 21) j) from if_neg (fun z => by first | (have z1 := z.1; simp [nP, c_23, c_34] at z1; done) | (have z9 := z.2; rw [ho] at z9; change (!decide _) = true at z9; rw [decide_eq_true c_115] at z9; cases z9)), ho] at hs
                 try rw [show o2i 0 (some q) = nI q by show nI (0 + q) = nI q; rw [Nat.zero_add]] at hs
                 exact z_to hs ⟨rfl, rfl, rfl, rfl, rfl, rfl, rfl, trivial⟩)
          · refine z_aload_n g dX11_nameAt_37 rfl ?_
            refine z_getR g fl_X11_62 hM.k0 (by decide) rfl (hM.ref (k := 21) (by decide)) dX11_nameAt_38 ?_
            refine z_iload g dX11_nameAt_41 rfl ?_
            refine z_ialdk g (hM.kA1 (k := 21) (by decide)) (by decide) (vp_in_nI (by rw [hM.lnI (k := 21) (by decide)]; show _ < 100; omega) (by rw [hM.lnI (k := 21) (by decide)]; decide)) dX11_nameAt_43 ?_
            rw [nI_clamp (by omega), hM.row (k := 21) (by decide) (by decide)]
            refine z_iload_n g dX11_nameAt_44 rfl ?_
            refine z_icmp_gt (tgt := 87) g dX11_nameAt_45 (by decide) (fun c_45 => ?_) (fun c_45 => ?_)
            · refine z_iconst (v := 0) g dX11_nameAt_87 (by decide) ?_
              refine z_istore g dX11_nameAt_88 (by rw [hN]; decide) ?_
              refine z_iload g dX11_nameAt_90 rfl ?_
              refine z_if_eq (tgt := 123) g dX11_nameAt_92 (by decide) (fun _ => ?_) (fun c_92 => absurd (by decide) c_92)
              refine z_iload g dX11_nameAt_123 rfl ?_
              refine z_istore g dX11_nameAt_125 (by rw [hN]; decide) ?_
              refine z_iinc1 g dX11_nameAt_127 rfl (by rw [hN]; decide) ?_
              refine z_goto (tgt := 6) g dX11_nameAt_130 (by decide) ?_
              have hs := ih (k - 1) (by omega) (j + 1) (by omega)
              rw [nI_s]
              first
                | (rw [show (bst (nP S (nI f) t d kn) (gA S 21) (j + 1)) = some j from if_pos ⟨by simp [nP, c_23, c_34, c_45], by rw [ho]; first | rfl | (show (!decide _) = true; rw [decide_eq_false c_115]; rfl)⟩] at hs
                   rw [show o2i 0 (some j) = nI j by show nI (0 + j) = nI j; rw [Nat.zero_add]] at hs
                   exact z_to hs ⟨rfl, rfl, rfl, rfl, rfl, rfl, rfl, trivial⟩)
                | (rw [show (bst (nP S (nI f) t d kn) (gA S 21) (j + 1)) = (bst (nP S (nI f) t d kn) (gA S 21) j) from if_neg (fun z => by first | (have z1 := z.1; simp [nP, c_23, c_34, c_45] at z1; done) | (have z9 := z.2; rw [ho] at z9; change (!decide _) = true at z9; rw [decide_eq_true c_115] at z9; cases z9)), ho] at hs
                   try rw [show o2i 0 (some q) = nI q by show nI (0 + q) = nI q; rw [Nat.zero_add]] at hs
                   exact z_to hs ⟨rfl, rfl, rfl, rfl, rfl, rfl, rfl, trivial⟩)
            · refine z_aload_n g dX11_nameAt_48 rfl ?_
              refine z_getR g fl_X11_65 hM.k0 (by decide) rfl (hM.ref (k := 22) (by decide)) dX11_nameAt_49 ?_
              refine z_iload g dX11_nameAt_52 rfl ?_
              refine z_ialdk g (hM.kA1 (k := 22) (by decide)) (by decide) (vp_in_nI (by rw [hM.lnI (k := 22) (by decide)]; show _ < 100; omega) (by rw [hM.lnI (k := 22) (by decide)]; decide)) dX11_nameAt_54 ?_
              rw [nI_clamp (by omega), hM.row (k := 22) (by decide) (by decide)]
              refine z_iload g dX11_nameAt_55 rfl ?_
              refine z_icmp_gt (tgt := 87) g dX11_nameAt_57 (by decide) (fun c_57 => ?_) (fun c_57 => ?_)
              · refine z_iconst (v := 0) g dX11_nameAt_87 (by decide) ?_
                refine z_istore g dX11_nameAt_88 (by rw [hN]; decide) ?_
                refine z_iload g dX11_nameAt_90 rfl ?_
                refine z_if_eq (tgt := 123) g dX11_nameAt_92 (by decide) (fun _ => ?_) (fun c_92 => absurd (by decide) c_92)
                refine z_iload g dX11_nameAt_123 rfl ?_
                refine z_istore g dX11_nameAt_125 (by rw [hN]; decide) ?_
                refine z_iinc1 g dX11_nameAt_127 rfl (by rw [hN]; decide) ?_
                refine z_goto (tgt := 6) g dX11_nameAt_130 (by decide) ?_
                have hs := ih (k - 1) (by omega) (j + 1) (by omega)
                rw [nI_s]
                first
                  | (rw [show (bst (nP S (nI f) t d kn) (gA S 21) (j + 1)) = some j from if_pos ⟨by simp [nP, c_23, c_34, c_45, c_57], by rw [ho]; first | rfl | (show (!decide _) = true; rw [decide_eq_false c_115]; rfl)⟩] at hs
                     rw [show o2i 0 (some j) = nI j by show nI (0 + j) = nI j; rw [Nat.zero_add]] at hs
                     exact z_to hs ⟨rfl, rfl, rfl, rfl, rfl, rfl, rfl, trivial⟩)
                  | (rw [show (bst (nP S (nI f) t d kn) (gA S 21) (j + 1)) = (bst (nP S (nI f) t d kn) (gA S 21) j) from if_neg (fun z => by first | (have z1 := z.1; simp [nP, c_23, c_34, c_45, c_57] at z1; done) | (have z9 := z.2; rw [ho] at z9; change (!decide _) = true at z9; rw [decide_eq_true c_115] at z9; cases z9)), ho] at hs
                     try rw [show o2i 0 (some q) = nI q by show nI (0 + q) = nI q; rw [Nat.zero_add]] at hs
                     exact z_to hs ⟨rfl, rfl, rfl, rfl, rfl, rfl, rfl, trivial⟩)
              · refine z_aload_n g dX11_nameAt_60 rfl ?_
                refine z_getR g fl_X11_68 hM.k0 (by decide) rfl (hM.ref (k := 23) (by decide)) dX11_nameAt_61 ?_
                refine z_iload g dX11_nameAt_64 rfl ?_
                refine z_ialdk g (hM.kA1 (k := 23) (by decide)) (by decide) (vp_in_nI (by rw [hM.lnI (k := 23) (by decide)]; show _ < 100; omega) (by rw [hM.lnI (k := 23) (by decide)]; decide)) dX11_nameAt_66 ?_
                rw [nI_clamp (by omega), hM.row (k := 23) (by decide) (by decide)]
                refine z_iconst (v := (-1)) g dX11_nameAt_67 (by decide) ?_
                refine z_icmp_eq (tgt := 83) g dX11_nameAt_68 (by decide) (fun c_68 => ?_) (fun c_68 => ?_)
                · refine z_iconst (v := 1) g dX11_nameAt_83 (by decide) ?_
                  refine z_goto (tgt := 88) g dX11_nameAt_84 (by decide) ?_
                  refine z_istore g dX11_nameAt_88 (by rw [hN]; decide) ?_
                  refine z_iload g dX11_nameAt_90 rfl ?_
                  refine z_if_eq (tgt := 123) g dX11_nameAt_92 (by decide) (fun c_92 => absurd c_92 (by decide)) (fun _ => ?_)
                  refine z_iload g dX11_nameAt_95 rfl ?_
                  refine z_iconst (v := (-1)) g dX11_nameAt_97 (by decide) ?_
                  refine z_icmp_eq (tgt := 118) g dX11_nameAt_98 (by decide) (fun c_98 => ?_) (fun c_98 => (by exact absurd rfl c_98))
                  refine z_iload g dX11_nameAt_118 rfl ?_
                  refine z_goto (tgt := 125) g dX11_nameAt_120 (by decide) ?_
                  refine z_istore g dX11_nameAt_125 (by rw [hN]; decide) ?_
                  refine z_iinc1 g dX11_nameAt_127 rfl (by rw [hN]; decide) ?_
                  refine z_goto (tgt := 6) g dX11_nameAt_130 (by decide) ?_
                  have hs := ih (k - 1) (by omega) (j + 1) (by omega)
                  rw [nI_s]
                  first
                    | (rw [show (bst (nP S (nI f) t d kn) (gA S 21) (j + 1)) = some j from if_pos ⟨by simp [nP, c_23, c_34, c_45, c_57, c_68], by rw [ho]; first | rfl | (show (!decide _) = true; rw [decide_eq_false c_115]; rfl)⟩] at hs
                       rw [show o2i 0 (some j) = nI j by show nI (0 + j) = nI j; rw [Nat.zero_add]] at hs
                       exact z_to hs ⟨rfl, rfl, rfl, rfl, rfl, rfl, rfl, trivial⟩)
                    | (rw [show (bst (nP S (nI f) t d kn) (gA S 21) (j + 1)) = (bst (nP S (nI f) t d kn) (gA S 21) j) from if_neg (fun z => by first | (have z1 := z.1; simp [nP, c_23, c_34, c_45, c_57, c_68] at z1; done) | (have z9 := z.2; rw [ho] at z9; change (!decide _) = true at z9; rw [decide_eq_true c_115] at z9; cases z9)), ho] at hs
                       try rw [show o2i 0 (some q) = nI q by show nI (0 + q) = nI q; rw [Nat.zero_add]] at hs
                       exact z_to hs ⟨rfl, rfl, rfl, rfl, rfl, rfl, rfl, trivial⟩)
                · refine z_aload_n g dX11_nameAt_71 rfl ?_
                  refine z_getR g fl_X11_68 hM.k0 (by decide) rfl (hM.ref (k := 23) (by decide)) dX11_nameAt_72 ?_
                  refine z_iload g dX11_nameAt_75 rfl ?_
                  refine z_ialdk g (hM.kA1 (k := 23) (by decide)) (by decide) (vp_in_nI (by rw [hM.lnI (k := 23) (by decide)]; show _ < 100; omega) (by rw [hM.lnI (k := 23) (by decide)]; decide)) dX11_nameAt_77 ?_
                  rw [nI_clamp (by omega), hM.row (k := 23) (by decide) (by decide)]
                  refine z_iload g dX11_nameAt_78 rfl ?_
                  refine z_icmp_le (tgt := 87) g dX11_nameAt_80 (by decide) (fun c_80 => ?_) (fun c_80 => ?_)
                  · refine z_iconst (v := 0) g dX11_nameAt_87 (by decide) ?_
                    refine z_istore g dX11_nameAt_88 (by rw [hN]; decide) ?_
                    refine z_iload g dX11_nameAt_90 rfl ?_
                    refine z_if_eq (tgt := 123) g dX11_nameAt_92 (by decide) (fun _ => ?_) (fun c_92 => absurd (by decide) c_92)
                    refine z_iload g dX11_nameAt_123 rfl ?_
                    refine z_istore g dX11_nameAt_125 (by rw [hN]; decide) ?_
                    refine z_iinc1 g dX11_nameAt_127 rfl (by rw [hN]; decide) ?_
                    refine z_goto (tgt := 6) g dX11_nameAt_130 (by decide) ?_
                    have hs := ih (k - 1) (by omega) (j + 1) (by omega)
                    rw [nI_s]
                    first
                      | (rw [show (bst (nP S (nI f) t d kn) (gA S 21) (j + 1)) = some j from if_pos ⟨by simp [nP, c_23, c_34, c_45, c_57, c_68, c_80], by rw [ho]; first | rfl | (show (!decide _) = true; rw [decide_eq_false c_115]; rfl)⟩] at hs
                         rw [show o2i 0 (some j) = nI j by show nI (0 + j) = nI j; rw [Nat.zero_add]] at hs
                         exact z_to hs ⟨rfl, rfl, rfl, rfl, rfl, rfl, rfl, trivial⟩)
                      | (rw [show (bst (nP S (nI f) t d kn) (gA S 21) (j + 1)) = (bst (nP S (nI f) t d kn) (gA S 21) j) from if_neg (fun z => by first | (have z1 := z.1; simp [nP, c_23, c_34, c_45, c_57, c_68, c_80] at z1; done) | (have z9 := z.2; rw [ho] at z9; change (!decide _) = true at z9; rw [decide_eq_true c_115] at z9; cases z9)), ho] at hs
                         try rw [show o2i 0 (some q) = nI q by show nI (0 + q) = nI q; rw [Nat.zero_add]] at hs
                         exact z_to hs ⟨rfl, rfl, rfl, rfl, rfl, rfl, rfl, trivial⟩)
                  · refine z_iconst (v := 1) g dX11_nameAt_83 (by decide) ?_
                    refine z_goto (tgt := 88) g dX11_nameAt_84 (by decide) ?_
                    refine z_istore g dX11_nameAt_88 (by rw [hN]; decide) ?_
                    refine z_iload g dX11_nameAt_90 rfl ?_
                    refine z_if_eq (tgt := 123) g dX11_nameAt_92 (by decide) (fun c_92 => absurd c_92 (by decide)) (fun _ => ?_)
                    refine z_iload g dX11_nameAt_95 rfl ?_
                    refine z_iconst (v := (-1)) g dX11_nameAt_97 (by decide) ?_
                    refine z_icmp_eq (tgt := 118) g dX11_nameAt_98 (by decide) (fun c_98 => ?_) (fun c_98 => (by exact absurd rfl c_98))
                    refine z_iload g dX11_nameAt_118 rfl ?_
                    refine z_goto (tgt := 125) g dX11_nameAt_120 (by decide) ?_
                    refine z_istore g dX11_nameAt_125 (by rw [hN]; decide) ?_
                    refine z_iinc1 g dX11_nameAt_127 rfl (by rw [hN]; decide) ?_
                    refine z_goto (tgt := 6) g dX11_nameAt_130 (by decide) ?_
                    have hs := ih (k - 1) (by omega) (j + 1) (by omega)
                    rw [nI_s]
                    first
                      | (rw [show (bst (nP S (nI f) t d kn) (gA S 21) (j + 1)) = some j from if_pos ⟨by simp [nP, c_23, c_34, c_45, c_57, c_68, c_80], by rw [ho]; first | rfl | (show (!decide _) = true; rw [decide_eq_false c_115]; rfl)⟩] at hs
                         rw [show o2i 0 (some j) = nI j by show nI (0 + j) = nI j; rw [Nat.zero_add]] at hs
                         exact z_to hs ⟨rfl, rfl, rfl, rfl, rfl, rfl, rfl, trivial⟩)
                      | (rw [show (bst (nP S (nI f) t d kn) (gA S 21) (j + 1)) = (bst (nP S (nI f) t d kn) (gA S 21) j) from if_neg (fun z => by first | (have z1 := z.1; simp [nP, c_23, c_34, c_45, c_57, c_68, c_80] at z1; done) | (have z9 := z.2; rw [ho] at z9; change (!decide _) = true at z9; rw [decide_eq_true c_115] at z9; cases z9)), ho] at hs
                         try rw [show o2i 0 (some q) = nI q by show nI (0 + q) = nI q; rw [Nat.zero_add]] at hs
                         exact z_to hs ⟨rfl, rfl, rfl, rfl, rfl, rfl, rfl, trivial⟩)
      · have hq := (bst_mem ho).1
        show Z X M 0 0 6 [(0, .ref m), (1, .int (nI f)), (2, .int t), (3, .int d), (4, .int kn), (5, .int (nI (0 + q))), (6, .int (nI j))] []
        rw [Nat.zero_add]
        refine z_iload g dX11_nameAt_6 rfl ?_
        refine z_aload_n g dX11_nameAt_8 rfl ?_
        refine z_getI g fl_X11_201 hM.k0 (by decide) rfl dX11_nameAt_9 ?_
        rw [hM.sc (k := 17) (by decide) (by decide)]
        rw [hN17]
        refine z_icmp_ge (tgt := 133) g dX11_nameAt_12 (by decide) (fun c_12 => ?_) (fun c_12 => ?_)
        · rw [nI_leI (by omega) (by omega)] at c_12
          have hp : nmA S (nI f) t d kn = some q := (show nmA S (nI f) t d kn = (bst (nP S (nI f) t d kn) (gA S 21) j) by rw [nmA, show j = cn S 17 by omega]).trans ho
          rw [hp] at hrt
          refine z_iload g dX11_nameAt_133 rfl ?_
          exact z_iret g hrt rfl (by decide) (by decide) dX11_nameAt_135 ⟨by first | rfl | (show _ = some (Value.int (nI (0 + q))); rw [Nat.zero_add]), rfl⟩
        have h12 : j < cn S 17 := by rw [nI_leI (by omega) (by omega)] at c_12; omega
        refine z_aload_n g dX11_nameAt_15 rfl ?_
        refine z_getR g fl_X11_52 hM.k0 (by decide) rfl (hM.ref (k := 18) (by decide)) dX11_nameAt_16 ?_
        refine z_iload g dX11_nameAt_19 rfl ?_
        refine z_ialdk g (hM.kA1 (k := 18) (by decide)) (by decide) (vp_in_nI (by rw [hM.lnI (k := 18) (by decide)]; show _ < 100; omega) (by rw [hM.lnI (k := 18) (by decide)]; decide)) dX11_nameAt_21 ?_
        rw [nI_clamp (by omega), hM.row (k := 18) (by decide) (by decide)]
        refine z_iload_n g dX11_nameAt_22 rfl ?_
        refine z_icmp_ne (tgt := 87) g dX11_nameAt_23 (by decide) (fun c_23 => ?_) (fun c_23 => ?_)
        · refine z_iconst (v := 0) g dX11_nameAt_87 (by decide) ?_
          refine z_istore g dX11_nameAt_88 (by rw [hN]; decide) ?_
          refine z_iload g dX11_nameAt_90 rfl ?_
          refine z_if_eq (tgt := 123) g dX11_nameAt_92 (by decide) (fun _ => ?_) (fun c_92 => absurd (by decide) c_92)
          refine z_iload g dX11_nameAt_123 rfl ?_
          refine z_istore g dX11_nameAt_125 (by rw [hN]; decide) ?_
          refine z_iinc1 g dX11_nameAt_127 rfl (by rw [hN]; decide) ?_
          refine z_goto (tgt := 6) g dX11_nameAt_130 (by decide) ?_
          have hs := ih (k - 1) (by omega) (j + 1) (by omega)
          rw [nI_s]
          first
            | (rw [show (bst (nP S (nI f) t d kn) (gA S 21) (j + 1)) = some j from if_pos ⟨by simp [nP, c_23], by rw [ho]; first | rfl | (show (!decide _) = true; rw [decide_eq_false c_115]; rfl)⟩] at hs
               rw [show o2i 0 (some j) = nI j by show nI (0 + j) = nI j; rw [Nat.zero_add]] at hs
               exact z_to hs ⟨rfl, rfl, rfl, rfl, rfl, rfl, rfl, trivial⟩)
            | (rw [show (bst (nP S (nI f) t d kn) (gA S 21) (j + 1)) = (bst (nP S (nI f) t d kn) (gA S 21) j) from if_neg (fun z => by first | (have z1 := z.1; simp [nP, c_23] at z1; done) | (have z9 := z.2; rw [ho] at z9; change (!decide _) = true at z9; rw [decide_eq_true c_115] at z9; cases z9)), ho] at hs
               try rw [show o2i 0 (some q) = nI q by show nI (0 + q) = nI q; rw [Nat.zero_add]] at hs
               exact z_to hs ⟨rfl, rfl, rfl, rfl, rfl, rfl, rfl, trivial⟩)
        · refine z_aload_n g dX11_nameAt_26 rfl ?_
          refine z_getR g fl_X11_55 hM.k0 (by decide) rfl (hM.ref (k := 19) (by decide)) dX11_nameAt_27 ?_
          refine z_iload g dX11_nameAt_30 rfl ?_
          refine z_ialdk g (hM.kA1 (k := 19) (by decide)) (by decide) (vp_in_nI (by rw [hM.lnI (k := 19) (by decide)]; show _ < 100; omega) (by rw [hM.lnI (k := 19) (by decide)]; decide)) dX11_nameAt_32 ?_
          rw [nI_clamp (by omega), hM.row (k := 19) (by decide) (by decide)]
          refine z_iload_n g dX11_nameAt_33 rfl ?_
          refine z_icmp_ne (tgt := 87) g dX11_nameAt_34 (by decide) (fun c_34 => ?_) (fun c_34 => ?_)
          · refine z_iconst (v := 0) g dX11_nameAt_87 (by decide) ?_
            refine z_istore g dX11_nameAt_88 (by rw [hN]; decide) ?_
            refine z_iload g dX11_nameAt_90 rfl ?_
            refine z_if_eq (tgt := 123) g dX11_nameAt_92 (by decide) (fun _ => ?_) (fun c_92 => absurd (by decide) c_92)
            refine z_iload g dX11_nameAt_123 rfl ?_
            refine z_istore g dX11_nameAt_125 (by rw [hN]; decide) ?_
            refine z_iinc1 g dX11_nameAt_127 rfl (by rw [hN]; decide) ?_
            refine z_goto (tgt := 6) g dX11_nameAt_130 (by decide) ?_
            have hs := ih (k - 1) (by omega) (j + 1) (by omega)
            rw [nI_s]
            first
              | (rw [show (bst (nP S (nI f) t d kn) (gA S 21) (j + 1)) = some j from if_pos ⟨by simp [nP, c_23, c_34], by rw [ho]; first | rfl | (show (!decide _) = true; rw [decide_eq_false c_115]; rfl)⟩] at hs
                 rw [show o2i 0 (some j) = nI j by show nI (0 + j) = nI j; rw [Nat.zero_add]] at hs
                 exact z_to hs ⟨rfl, rfl, rfl, rfl, rfl, rfl, rfl, trivial⟩)
              | (rw [show (bst (nP S (nI f) t d kn) (gA S 21) (j + 1)) = (bst (nP S (nI f) t d kn) (gA S 21) j) from if_neg (fun z => by first | (have z1 := z.1; simp [nP, c_23, c_34] at z1; done) | (have z9 := z.2; rw [ho] at z9; change (!decide _) = true at z9; rw [decide_eq_true c_115] at z9; cases z9)), ho] at hs
                 try rw [show o2i 0 (some q) = nI q by show nI (0 + q) = nI q; rw [Nat.zero_add]] at hs
                 exact z_to hs ⟨rfl, rfl, rfl, rfl, rfl, rfl, rfl, trivial⟩)
          · refine z_aload_n g dX11_nameAt_37 rfl ?_
            refine z_getR g fl_X11_62 hM.k0 (by decide) rfl (hM.ref (k := 21) (by decide)) dX11_nameAt_38 ?_
            refine z_iload g dX11_nameAt_41 rfl ?_
            refine z_ialdk g (hM.kA1 (k := 21) (by decide)) (by decide) (vp_in_nI (by rw [hM.lnI (k := 21) (by decide)]; show _ < 100; omega) (by rw [hM.lnI (k := 21) (by decide)]; decide)) dX11_nameAt_43 ?_
            rw [nI_clamp (by omega), hM.row (k := 21) (by decide) (by decide)]
            refine z_iload_n g dX11_nameAt_44 rfl ?_
            refine z_icmp_gt (tgt := 87) g dX11_nameAt_45 (by decide) (fun c_45 => ?_) (fun c_45 => ?_)
            · refine z_iconst (v := 0) g dX11_nameAt_87 (by decide) ?_
              refine z_istore g dX11_nameAt_88 (by rw [hN]; decide) ?_
              refine z_iload g dX11_nameAt_90 rfl ?_
              refine z_if_eq (tgt := 123) g dX11_nameAt_92 (by decide) (fun _ => ?_) (fun c_92 => absurd (by decide) c_92)
              refine z_iload g dX11_nameAt_123 rfl ?_
              refine z_istore g dX11_nameAt_125 (by rw [hN]; decide) ?_
              refine z_iinc1 g dX11_nameAt_127 rfl (by rw [hN]; decide) ?_
              refine z_goto (tgt := 6) g dX11_nameAt_130 (by decide) ?_
              have hs := ih (k - 1) (by omega) (j + 1) (by omega)
              rw [nI_s]
              first
                | (rw [show (bst (nP S (nI f) t d kn) (gA S 21) (j + 1)) = some j from if_pos ⟨by simp [nP, c_23, c_34, c_45], by rw [ho]; first | rfl | (show (!decide _) = true; rw [decide_eq_false c_115]; rfl)⟩] at hs
                   rw [show o2i 0 (some j) = nI j by show nI (0 + j) = nI j; rw [Nat.zero_add]] at hs
                   exact z_to hs ⟨rfl, rfl, rfl, rfl, rfl, rfl, rfl, trivial⟩)
                | (rw [show (bst (nP S (nI f) t d kn) (gA S 21) (j + 1)) = (bst (nP S (nI f) t d kn) (gA S 21) j) from if_neg (fun z => by first | (have z1 := z.1; simp [nP, c_23, c_34, c_45] at z1; done) | (have z9 := z.2; rw [ho] at z9; change (!decide _) = true at z9; rw [decide_eq_true c_115] at z9; cases z9)), ho] at hs
                   try rw [show o2i 0 (some q) = nI q by show nI (0 + q) = nI q; rw [Nat.zero_add]] at hs
                   exact z_to hs ⟨rfl, rfl, rfl, rfl, rfl, rfl, rfl, trivial⟩)
            · refine z_aload_n g dX11_nameAt_48 rfl ?_
              refine z_getR g fl_X11_65 hM.k0 (by decide) rfl (hM.ref (k := 22) (by decide)) dX11_nameAt_49 ?_
              refine z_iload g dX11_nameAt_52 rfl ?_
              refine z_ialdk g (hM.kA1 (k := 22) (by decide)) (by decide) (vp_in_nI (by rw [hM.lnI (k := 22) (by decide)]; show _ < 100; omega) (by rw [hM.lnI (k := 22) (by decide)]; decide)) dX11_nameAt_54 ?_
              rw [nI_clamp (by omega), hM.row (k := 22) (by decide) (by decide)]
              refine z_iload g dX11_nameAt_55 rfl ?_
              refine z_icmp_gt (tgt := 87) g dX11_nameAt_57 (by decide) (fun c_57 => ?_) (fun c_57 => ?_)
              · refine z_iconst (v := 0) g dX11_nameAt_87 (by decide) ?_
                refine z_istore g dX11_nameAt_88 (by rw [hN]; decide) ?_
                refine z_iload g dX11_nameAt_90 rfl ?_
                refine z_if_eq (tgt := 123) g dX11_nameAt_92 (by decide) (fun _ => ?_) (fun c_92 => absurd (by decide) c_92)
                refine z_iload g dX11_nameAt_123 rfl ?_
                refine z_istore g dX11_nameAt_125 (by rw [hN]; decide) ?_
                refine z_iinc1 g dX11_nameAt_127 rfl (by rw [hN]; decide) ?_
                refine z_goto (tgt := 6) g dX11_nameAt_130 (by decide) ?_
                have hs := ih (k - 1) (by omega) (j + 1) (by omega)
                rw [nI_s]
                first
                  | (rw [show (bst (nP S (nI f) t d kn) (gA S 21) (j + 1)) = some j from if_pos ⟨by simp [nP, c_23, c_34, c_45, c_57], by rw [ho]; first | rfl | (show (!decide _) = true; rw [decide_eq_false c_115]; rfl)⟩] at hs
                     rw [show o2i 0 (some j) = nI j by show nI (0 + j) = nI j; rw [Nat.zero_add]] at hs
                     exact z_to hs ⟨rfl, rfl, rfl, rfl, rfl, rfl, rfl, trivial⟩)
                  | (rw [show (bst (nP S (nI f) t d kn) (gA S 21) (j + 1)) = (bst (nP S (nI f) t d kn) (gA S 21) j) from if_neg (fun z => by first | (have z1 := z.1; simp [nP, c_23, c_34, c_45, c_57] at z1; done) | (have z9 := z.2; rw [ho] at z9; change (!decide _) = true at z9; rw [decide_eq_true c_115] at z9; cases z9)), ho] at hs
                     try rw [show o2i 0 (some q) = nI q by show nI (0 + q) = nI q; rw [Nat.zero_add]] at hs
                     exact z_to hs ⟨rfl, rfl, rfl, rfl, rfl, rfl, rfl, trivial⟩)
              · refine z_aload_n g dX11_nameAt_60 rfl ?_
                refine z_getR g fl_X11_68 hM.k0 (by decide) rfl (hM.ref (k := 23) (by decide)) dX11_nameAt_61 ?_
                refine z_iload g dX11_nameAt_64 rfl ?_
                refine z_ialdk g (hM.kA1 (k := 23) (by decide)) (by decide) (vp_in_nI (by rw [hM.lnI (k := 23) (by decide)]; show _ < 100; omega) (by rw [hM.lnI (k := 23) (by decide)]; decide)) dX11_nameAt_66 ?_
                rw [nI_clamp (by omega), hM.row (k := 23) (by decide) (by decide)]
                refine z_iconst (v := (-1)) g dX11_nameAt_67 (by decide) ?_
                refine z_icmp_eq (tgt := 83) g dX11_nameAt_68 (by decide) (fun c_68 => ?_) (fun c_68 => ?_)
                · refine z_iconst (v := 1) g dX11_nameAt_83 (by decide) ?_
                  refine z_goto (tgt := 88) g dX11_nameAt_84 (by decide) ?_
                  refine z_istore g dX11_nameAt_88 (by rw [hN]; decide) ?_
                  refine z_iload g dX11_nameAt_90 rfl ?_
                  refine z_if_eq (tgt := 123) g dX11_nameAt_92 (by decide) (fun c_92 => absurd c_92 (by decide)) (fun _ => ?_)
                  refine z_iload g dX11_nameAt_95 rfl ?_
                  refine z_iconst (v := (-1)) g dX11_nameAt_97 (by decide) ?_
                  refine z_icmp_eq (tgt := 118) g dX11_nameAt_98 (by decide) (fun c_98 => (by exact absurd c_98 (m1_ne (by omega)))) (fun c_98 => ?_)
                  refine z_aload_n g dX11_nameAt_101 rfl ?_
                  refine z_getR g fl_X11_62 hM.k0 (by decide) rfl (hM.ref (k := 21) (by decide)) dX11_nameAt_102 ?_
                  refine z_iload g dX11_nameAt_105 rfl ?_
                  refine z_ialdk g (hM.kA1 (k := 21) (by decide)) (by decide) (vp_in_nI (by rw [hM.lnI (k := 21) (by decide)]; show _ < 100; omega) (by rw [hM.lnI (k := 21) (by decide)]; decide)) dX11_nameAt_107 ?_
                  rw [nI_clamp (by omega), hM.row (k := 21) (by decide) (by decide)]
                  refine z_aload_n g dX11_nameAt_108 rfl ?_
                  refine z_getR g fl_X11_62 hM.k0 (by decide) rfl (hM.ref (k := 21) (by decide)) dX11_nameAt_109 ?_
                  refine z_iload g dX11_nameAt_112 rfl ?_
                  refine z_ialdk g (hM.kA1 (k := 21) (by decide)) (by decide) (vp_in_nI (by rw [hM.lnI (k := 21) (by decide)]; show _ < 100; omega) (by rw [hM.lnI (k := 21) (by decide)]; decide)) dX11_nameAt_114 ?_
                  rw [nI_clamp (by omega), hM.row (k := 21) (by decide) (by decide)]
                  refine z_icmp_lt (tgt := 123) g dX11_nameAt_115 (by decide) (fun c_115 => ?_) (fun c_115 => ?_)
                  · refine z_iload g dX11_nameAt_123 rfl ?_
                    refine z_istore g dX11_nameAt_125 (by rw [hN]; decide) ?_
                    refine z_iinc1 g dX11_nameAt_127 rfl (by rw [hN]; decide) ?_
                    refine z_goto (tgt := 6) g dX11_nameAt_130 (by decide) ?_
                    have hs := ih (k - 1) (by omega) (j + 1) (by omega)
                    rw [nI_s]
                    first
                      | (rw [show (bst (nP S (nI f) t d kn) (gA S 21) (j + 1)) = some j from if_pos ⟨by simp [nP, c_23, c_34, c_45, c_57, c_68], by rw [ho]; first | rfl | (show (!decide _) = true; rw [decide_eq_false c_115]; rfl)⟩] at hs
                         rw [show o2i 0 (some j) = nI j by show nI (0 + j) = nI j; rw [Nat.zero_add]] at hs
                         exact z_to hs ⟨rfl, rfl, rfl, rfl, rfl, rfl, rfl, trivial⟩)
                      | (rw [show (bst (nP S (nI f) t d kn) (gA S 21) (j + 1)) = (bst (nP S (nI f) t d kn) (gA S 21) j) from if_neg (fun z => by first | (have z1 := z.1; simp [nP, c_23, c_34, c_45, c_57, c_68] at z1; done) | (have z9 := z.2; rw [ho] at z9; change (!decide _) = true at z9; rw [decide_eq_true c_115] at z9; cases z9)), ho] at hs
                         try rw [show o2i 0 (some q) = nI q by show nI (0 + q) = nI q; rw [Nat.zero_add]] at hs
                         exact z_to hs ⟨rfl, rfl, rfl, rfl, rfl, rfl, rfl, trivial⟩)
                  · refine z_iload g dX11_nameAt_118 rfl ?_
                    refine z_goto (tgt := 125) g dX11_nameAt_120 (by decide) ?_
                    refine z_istore g dX11_nameAt_125 (by rw [hN]; decide) ?_
                    refine z_iinc1 g dX11_nameAt_127 rfl (by rw [hN]; decide) ?_
                    refine z_goto (tgt := 6) g dX11_nameAt_130 (by decide) ?_
                    have hs := ih (k - 1) (by omega) (j + 1) (by omega)
                    rw [nI_s]
                    first
                      | (rw [show (bst (nP S (nI f) t d kn) (gA S 21) (j + 1)) = some j from if_pos ⟨by simp [nP, c_23, c_34, c_45, c_57, c_68], by rw [ho]; first | rfl | (show (!decide _) = true; rw [decide_eq_false c_115]; rfl)⟩] at hs
                         rw [show o2i 0 (some j) = nI j by show nI (0 + j) = nI j; rw [Nat.zero_add]] at hs
                         exact z_to hs ⟨rfl, rfl, rfl, rfl, rfl, rfl, rfl, trivial⟩)
                      | (rw [show (bst (nP S (nI f) t d kn) (gA S 21) (j + 1)) = (bst (nP S (nI f) t d kn) (gA S 21) j) from if_neg (fun z => by first | (have z1 := z.1; simp [nP, c_23, c_34, c_45, c_57, c_68] at z1; done) | (have z9 := z.2; rw [ho] at z9; change (!decide _) = true at z9; rw [decide_eq_true c_115] at z9; cases z9)), ho] at hs
                         try rw [show o2i 0 (some q) = nI q by show nI (0 + q) = nI q; rw [Nat.zero_add]] at hs
                         exact z_to hs ⟨rfl, rfl, rfl, rfl, rfl, rfl, rfl, trivial⟩)
                · refine z_aload_n g dX11_nameAt_71 rfl ?_
                  refine z_getR g fl_X11_68 hM.k0 (by decide) rfl (hM.ref (k := 23) (by decide)) dX11_nameAt_72 ?_
                  refine z_iload g dX11_nameAt_75 rfl ?_
                  refine z_ialdk g (hM.kA1 (k := 23) (by decide)) (by decide) (vp_in_nI (by rw [hM.lnI (k := 23) (by decide)]; show _ < 100; omega) (by rw [hM.lnI (k := 23) (by decide)]; decide)) dX11_nameAt_77 ?_
                  rw [nI_clamp (by omega), hM.row (k := 23) (by decide) (by decide)]
                  refine z_iload g dX11_nameAt_78 rfl ?_
                  refine z_icmp_le (tgt := 87) g dX11_nameAt_80 (by decide) (fun c_80 => ?_) (fun c_80 => ?_)
                  · refine z_iconst (v := 0) g dX11_nameAt_87 (by decide) ?_
                    refine z_istore g dX11_nameAt_88 (by rw [hN]; decide) ?_
                    refine z_iload g dX11_nameAt_90 rfl ?_
                    refine z_if_eq (tgt := 123) g dX11_nameAt_92 (by decide) (fun _ => ?_) (fun c_92 => absurd (by decide) c_92)
                    refine z_iload g dX11_nameAt_123 rfl ?_
                    refine z_istore g dX11_nameAt_125 (by rw [hN]; decide) ?_
                    refine z_iinc1 g dX11_nameAt_127 rfl (by rw [hN]; decide) ?_
                    refine z_goto (tgt := 6) g dX11_nameAt_130 (by decide) ?_
                    have hs := ih (k - 1) (by omega) (j + 1) (by omega)
                    rw [nI_s]
                    first
                      | (rw [show (bst (nP S (nI f) t d kn) (gA S 21) (j + 1)) = some j from if_pos ⟨by simp [nP, c_23, c_34, c_45, c_57, c_68, c_80], by rw [ho]; first | rfl | (show (!decide _) = true; rw [decide_eq_false c_115]; rfl)⟩] at hs
                         rw [show o2i 0 (some j) = nI j by show nI (0 + j) = nI j; rw [Nat.zero_add]] at hs
                         exact z_to hs ⟨rfl, rfl, rfl, rfl, rfl, rfl, rfl, trivial⟩)
                      | (rw [show (bst (nP S (nI f) t d kn) (gA S 21) (j + 1)) = (bst (nP S (nI f) t d kn) (gA S 21) j) from if_neg (fun z => by first | (have z1 := z.1; simp [nP, c_23, c_34, c_45, c_57, c_68, c_80] at z1; done) | (have z9 := z.2; rw [ho] at z9; change (!decide _) = true at z9; rw [decide_eq_true c_115] at z9; cases z9)), ho] at hs
                         try rw [show o2i 0 (some q) = nI q by show nI (0 + q) = nI q; rw [Nat.zero_add]] at hs
                         exact z_to hs ⟨rfl, rfl, rfl, rfl, rfl, rfl, rfl, trivial⟩)
                  · refine z_iconst (v := 1) g dX11_nameAt_83 (by decide) ?_
                    refine z_goto (tgt := 88) g dX11_nameAt_84 (by decide) ?_
                    refine z_istore g dX11_nameAt_88 (by rw [hN]; decide) ?_
                    refine z_iload g dX11_nameAt_90 rfl ?_
                    refine z_if_eq (tgt := 123) g dX11_nameAt_92 (by decide) (fun c_92 => absurd c_92 (by decide)) (fun _ => ?_)
                    refine z_iload g dX11_nameAt_95 rfl ?_
                    refine z_iconst (v := (-1)) g dX11_nameAt_97 (by decide) ?_
                    refine z_icmp_eq (tgt := 118) g dX11_nameAt_98 (by decide) (fun c_98 => (by exact absurd c_98 (m1_ne (by omega)))) (fun c_98 => ?_)
                    refine z_aload_n g dX11_nameAt_101 rfl ?_
                    refine z_getR g fl_X11_62 hM.k0 (by decide) rfl (hM.ref (k := 21) (by decide)) dX11_nameAt_102 ?_
                    refine z_iload g dX11_nameAt_105 rfl ?_
                    refine z_ialdk g (hM.kA1 (k := 21) (by decide)) (by decide) (vp_in_nI (by rw [hM.lnI (k := 21) (by decide)]; show _ < 100; omega) (by rw [hM.lnI (k := 21) (by decide)]; decide)) dX11_nameAt_107 ?_
                    rw [nI_clamp (by omega), hM.row (k := 21) (by decide) (by decide)]
                    refine z_aload_n g dX11_nameAt_108 rfl ?_
                    refine z_getR g fl_X11_62 hM.k0 (by decide) rfl (hM.ref (k := 21) (by decide)) dX11_nameAt_109 ?_
                    refine z_iload g dX11_nameAt_112 rfl ?_
                    refine z_ialdk g (hM.kA1 (k := 21) (by decide)) (by decide) (vp_in_nI (by rw [hM.lnI (k := 21) (by decide)]; show _ < 100; omega) (by rw [hM.lnI (k := 21) (by decide)]; decide)) dX11_nameAt_114 ?_
                    rw [nI_clamp (by omega), hM.row (k := 21) (by decide) (by decide)]
                    refine z_icmp_lt (tgt := 123) g dX11_nameAt_115 (by decide) (fun c_115 => ?_) (fun c_115 => ?_)
                    · refine z_iload g dX11_nameAt_123 rfl ?_
                      refine z_istore g dX11_nameAt_125 (by rw [hN]; decide) ?_
                      refine z_iinc1 g dX11_nameAt_127 rfl (by rw [hN]; decide) ?_
                      refine z_goto (tgt := 6) g dX11_nameAt_130 (by decide) ?_
                      have hs := ih (k - 1) (by omega) (j + 1) (by omega)
                      rw [nI_s]
                      first
                        | (rw [show (bst (nP S (nI f) t d kn) (gA S 21) (j + 1)) = some j from if_pos ⟨by simp [nP, c_23, c_34, c_45, c_57, c_68, c_80], by rw [ho]; first | rfl | (show (!decide _) = true; rw [decide_eq_false c_115]; rfl)⟩] at hs
                           rw [show o2i 0 (some j) = nI j by show nI (0 + j) = nI j; rw [Nat.zero_add]] at hs
                           exact z_to hs ⟨rfl, rfl, rfl, rfl, rfl, rfl, rfl, trivial⟩)
                        | (rw [show (bst (nP S (nI f) t d kn) (gA S 21) (j + 1)) = (bst (nP S (nI f) t d kn) (gA S 21) j) from if_neg (fun z => by first | (have z1 := z.1; simp [nP, c_23, c_34, c_45, c_57, c_68, c_80] at z1; done) | (have z9 := z.2; rw [ho] at z9; change (!decide _) = true at z9; rw [decide_eq_true c_115] at z9; cases z9)), ho] at hs
                           try rw [show o2i 0 (some q) = nI q by show nI (0 + q) = nI q; rw [Nat.zero_add]] at hs
                           exact z_to hs ⟨rfl, rfl, rfl, rfl, rfl, rfl, rfl, trivial⟩)
                    · refine z_iload g dX11_nameAt_118 rfl ?_
                      refine z_goto (tgt := 125) g dX11_nameAt_120 (by decide) ?_
                      refine z_istore g dX11_nameAt_125 (by rw [hN]; decide) ?_
                      refine z_iinc1 g dX11_nameAt_127 rfl (by rw [hN]; decide) ?_
                      refine z_goto (tgt := 6) g dX11_nameAt_130 (by decide) ?_
                      have hs := ih (k - 1) (by omega) (j + 1) (by omega)
                      rw [nI_s]
                      first
                        | (rw [show (bst (nP S (nI f) t d kn) (gA S 21) (j + 1)) = some j from if_pos ⟨by simp [nP, c_23, c_34, c_45, c_57, c_68, c_80], by rw [ho]; first | rfl | (show (!decide _) = true; rw [decide_eq_false c_115]; rfl)⟩] at hs
                           rw [show o2i 0 (some j) = nI j by show nI (0 + j) = nI j; rw [Nat.zero_add]] at hs
                           exact z_to hs ⟨rfl, rfl, rfl, rfl, rfl, rfl, rfl, trivial⟩)
                        | (rw [show (bst (nP S (nI f) t d kn) (gA S 21) (j + 1)) = (bst (nP S (nI f) t d kn) (gA S 21) j) from if_neg (fun z => by first | (have z1 := z.1; simp [nP, c_23, c_34, c_45, c_57, c_68, c_80] at z1; done) | (have z9 := z.2; rw [ho] at z9; change (!decide _) = true at z9; rw [decide_eq_true c_115] at z9; cases z9)), ho] at hs
                           try rw [show o2i 0 (some q) = nI q by show nI (0 + q) = nI q; rw [Nat.zero_add]] at hs
                           exact z_to hs ⟨rfl, rfl, rfl, rfl, rfl, rfl, rfl, trivial⟩)
  refine z_iconst (v := (-1)) g dX11_nameAt_0 (by decide) ?_
  refine z_istore g dX11_nameAt_1 (by rw [hN]; decide) ?_
  refine z_iconst (v := 0) g dX11_nameAt_3 (by decide) ?_
  refine z_istore g dX11_nameAt_4 (by rw [hN]; decide) ?_
  exact z_to (loop _ 0 rfl) ⟨rfl, rfl, rfl, rfl, rfl, rfl, rfl, trivial⟩
set_option maxHeartbeats 4000000 in
set_option maxRecDepth 100000 in
theorem n_exA (E : Ev) {A : Nat → Nat} {m : Nat} {S : Ms} (M : Mm) (hM : RM A m S M) (hN31 : gi S 31 = nI (cn S 31)) (hB31 : cn S 31 ≤ 40) (f : Nat) (t kn : Int32) : CT E yX11_exceptedFrom cX11_exceptedFrom 7 (some .int) 1 0 0 [.ref m, .int (nI f), .int t, .int kn] M (ansI (exA S (nI f) t kn (cn S 31)) M) noX := by
  refine CT.of rfl (Nat.le_of_ble_eq_true rfl) (fun X g hrt hno hE hN hR hI => ?_)
  subst hE
  have loop : ∀ (k j : Nat) (hk : k + j = cn S 31), Z X M 0 0 8 [(0, .ref m), (1, .int (nI f)), (2, .int t), (3, .int kn), (4, .int (exA S (nI f) t kn j)), (5, .int (nI j))] [] := by
    intro k
    induction k using Nat.strongRecOn with
    | _ k ih =>
      intro j hk
      refine z_iload g dX11_exceptedFrom_8 rfl ?_
      refine z_aload_n g dX11_exceptedFrom_10 rfl ?_
      refine z_getI g fl_X11_204 hM.k0 (by decide) rfl dX11_exceptedFrom_11 ?_
      rw [hM.sc (k := 31) (by decide) (by decide)]
      rw [hN31]
      refine z_icmp_ge (tgt := 94) g dX11_exceptedFrom_14 (by decide) (fun c_14 => ?_) (fun c_14 => ?_)
      · rw [nI_leI (by omega) (by omega)] at c_14
        rw [show j = cn S 31 by omega]
        refine z_iload g dX11_exceptedFrom_94 rfl ?_
        exact z_iret g hrt rfl (by decide) (by decide) dX11_exceptedFrom_96 ⟨rfl, rfl⟩
      have h14 : j < cn S 31 := by rw [nI_leI (by omega) (by omega)] at c_14; omega
      refine z_aload_n g dX11_exceptedFrom_17 rfl ?_
      refine z_getR g fl_X11_89 hM.k0 (by decide) rfl (hM.ref (k := 32) (by decide)) dX11_exceptedFrom_18 ?_
      refine z_iload g dX11_exceptedFrom_21 rfl ?_
      refine z_ialdk g (hM.kA1 (k := 32) (by decide)) (by decide) (vp_in_nI (by rw [hM.lnI (k := 32) (by decide)]; show _ < 40; omega) (by rw [hM.lnI (k := 32) (by decide)]; decide)) dX11_exceptedFrom_23 ?_
      rw [nI_clamp (by omega), hM.row (k := 32) (by decide) (by decide)]
      refine z_iload_n g dX11_exceptedFrom_24 rfl ?_
      refine z_icmp_ne (tgt := 54) g dX11_exceptedFrom_25 (by decide) (fun c_25 => ?_) (fun c_25 => ?_)
      · refine z_iconst (v := 0) g dX11_exceptedFrom_54 (by decide) ?_
        refine z_istore g dX11_exceptedFrom_55 (by rw [hN]; decide) ?_
        refine z_iload g dX11_exceptedFrom_57 rfl ?_
        refine z_if_eq (tgt := 84) g dX11_exceptedFrom_59 (by decide) (fun _ => ?_) (fun c_59 => absurd (by decide) c_59)
        refine z_iload g dX11_exceptedFrom_84 rfl ?_
        refine z_istore g dX11_exceptedFrom_86 (by rw [hN]; decide) ?_
        refine z_iinc1 g dX11_exceptedFrom_88 rfl (by rw [hN]; decide) ?_
        refine z_goto (tgt := 8) g dX11_exceptedFrom_91 (by decide) ?_
        have hs := ih (k - 1) (by omega) (j + 1) (by omega)
        rw [nI_s]
        first
          | (rw [show exA S (nI f) t kn (j + 1) = gA S 34 j from if_pos ⟨by simp [xP, c_25], c_71⟩] at hs
             exact z_to hs ⟨rfl, rfl, rfl, rfl, rfl, rfl, trivial⟩)
          | (rw [show exA S (nI f) t kn (j + 1) = exA S (nI f) t kn j from if_neg (fun z => by first | exact z.2 c_71 | (have z1 := z.1; simp [xP, c_25] at z1; done))] at hs
             exact z_to hs ⟨rfl, rfl, rfl, rfl, rfl, rfl, trivial⟩)
      · refine z_aload_n g dX11_exceptedFrom_28 rfl ?_
        refine z_getR g fl_X11_92 hM.k0 (by decide) rfl (hM.ref (k := 33) (by decide)) dX11_exceptedFrom_29 ?_
        refine z_iload g dX11_exceptedFrom_32 rfl ?_
        refine z_ialdk g (hM.kA1 (k := 33) (by decide)) (by decide) (vp_in_nI (by rw [hM.lnI (k := 33) (by decide)]; show _ < 40; omega) (by rw [hM.lnI (k := 33) (by decide)]; decide)) dX11_exceptedFrom_34 ?_
        rw [nI_clamp (by omega), hM.row (k := 33) (by decide) (by decide)]
        refine z_iload_n g dX11_exceptedFrom_35 rfl ?_
        refine z_icmp_ne (tgt := 54) g dX11_exceptedFrom_36 (by decide) (fun c_36 => ?_) (fun c_36 => ?_)
        · refine z_iconst (v := 0) g dX11_exceptedFrom_54 (by decide) ?_
          refine z_istore g dX11_exceptedFrom_55 (by rw [hN]; decide) ?_
          refine z_iload g dX11_exceptedFrom_57 rfl ?_
          refine z_if_eq (tgt := 84) g dX11_exceptedFrom_59 (by decide) (fun _ => ?_) (fun c_59 => absurd (by decide) c_59)
          refine z_iload g dX11_exceptedFrom_84 rfl ?_
          refine z_istore g dX11_exceptedFrom_86 (by rw [hN]; decide) ?_
          refine z_iinc1 g dX11_exceptedFrom_88 rfl (by rw [hN]; decide) ?_
          refine z_goto (tgt := 8) g dX11_exceptedFrom_91 (by decide) ?_
          have hs := ih (k - 1) (by omega) (j + 1) (by omega)
          rw [nI_s]
          first
            | (rw [show exA S (nI f) t kn (j + 1) = gA S 34 j from if_pos ⟨by simp [xP, c_25, c_36], c_71⟩] at hs
               exact z_to hs ⟨rfl, rfl, rfl, rfl, rfl, rfl, trivial⟩)
            | (rw [show exA S (nI f) t kn (j + 1) = exA S (nI f) t kn j from if_neg (fun z => by first | exact z.2 c_71 | (have z1 := z.1; simp [xP, c_25, c_36] at z1; done))] at hs
               exact z_to hs ⟨rfl, rfl, rfl, rfl, rfl, rfl, trivial⟩)
        · refine z_aload_n g dX11_exceptedFrom_39 rfl ?_
          refine z_getR g fl_X11_98 hM.k0 (by decide) rfl (hM.ref (k := 35) (by decide)) dX11_exceptedFrom_40 ?_
          refine z_iload g dX11_exceptedFrom_43 rfl ?_
          refine z_ialdk g (hM.kA1 (k := 35) (by decide)) (by decide) (vp_in_nI (by rw [hM.lnI (k := 35) (by decide)]; show _ < 40; omega) (by rw [hM.lnI (k := 35) (by decide)]; decide)) dX11_exceptedFrom_45 ?_
          rw [nI_clamp (by omega), hM.row (k := 35) (by decide) (by decide)]
          refine z_iload_n g dX11_exceptedFrom_46 rfl ?_
          refine z_icmp_gt (tgt := 54) g dX11_exceptedFrom_47 (by decide) (fun c_47 => ?_) (fun c_47 => ?_)
          · refine z_iconst (v := 0) g dX11_exceptedFrom_54 (by decide) ?_
            refine z_istore g dX11_exceptedFrom_55 (by rw [hN]; decide) ?_
            refine z_iload g dX11_exceptedFrom_57 rfl ?_
            refine z_if_eq (tgt := 84) g dX11_exceptedFrom_59 (by decide) (fun _ => ?_) (fun c_59 => absurd (by decide) c_59)
            refine z_iload g dX11_exceptedFrom_84 rfl ?_
            refine z_istore g dX11_exceptedFrom_86 (by rw [hN]; decide) ?_
            refine z_iinc1 g dX11_exceptedFrom_88 rfl (by rw [hN]; decide) ?_
            refine z_goto (tgt := 8) g dX11_exceptedFrom_91 (by decide) ?_
            have hs := ih (k - 1) (by omega) (j + 1) (by omega)
            rw [nI_s]
            first
              | (rw [show exA S (nI f) t kn (j + 1) = gA S 34 j from if_pos ⟨by simp [xP, c_25, c_36, c_47], c_71⟩] at hs
                 exact z_to hs ⟨rfl, rfl, rfl, rfl, rfl, rfl, trivial⟩)
              | (rw [show exA S (nI f) t kn (j + 1) = exA S (nI f) t kn j from if_neg (fun z => by first | exact z.2 c_71 | (have z1 := z.1; simp [xP, c_25, c_36, c_47] at z1; done))] at hs
                 exact z_to hs ⟨rfl, rfl, rfl, rfl, rfl, rfl, trivial⟩)
          · refine z_iconst (v := 1) g dX11_exceptedFrom_50 (by decide) ?_
            refine z_goto (tgt := 55) g dX11_exceptedFrom_51 (by decide) ?_
            refine z_istore g dX11_exceptedFrom_55 (by rw [hN]; decide) ?_
            refine z_iload g dX11_exceptedFrom_57 rfl ?_
            refine z_if_eq (tgt := 84) g dX11_exceptedFrom_59 (by decide) (fun c_59 => absurd c_59 (by decide)) (fun _ => ?_)
            refine z_aload_n g dX11_exceptedFrom_62 rfl ?_
            refine z_getR g fl_X11_95 hM.k0 (by decide) rfl (hM.ref (k := 34) (by decide)) dX11_exceptedFrom_63 ?_
            refine z_iload g dX11_exceptedFrom_66 rfl ?_
            refine z_ialdk g (hM.kA1 (k := 34) (by decide)) (by decide) (vp_in_nI (by rw [hM.lnI (k := 34) (by decide)]; show _ < 40; omega) (by rw [hM.lnI (k := 34) (by decide)]; decide)) dX11_exceptedFrom_68 ?_
            rw [nI_clamp (by omega), hM.row (k := 34) (by decide) (by decide)]
            refine z_iload g dX11_exceptedFrom_69 rfl ?_
            refine z_icmp_ge (tgt := 84) g dX11_exceptedFrom_71 (by decide) (fun c_71 => ?_) (fun c_71 => ?_)
            · refine z_iload g dX11_exceptedFrom_84 rfl ?_
              refine z_istore g dX11_exceptedFrom_86 (by rw [hN]; decide) ?_
              refine z_iinc1 g dX11_exceptedFrom_88 rfl (by rw [hN]; decide) ?_
              refine z_goto (tgt := 8) g dX11_exceptedFrom_91 (by decide) ?_
              have hs := ih (k - 1) (by omega) (j + 1) (by omega)
              rw [nI_s]
              first
                | (rw [show exA S (nI f) t kn (j + 1) = gA S 34 j from if_pos ⟨by simp [xP, c_25, c_36, c_47], c_71⟩] at hs
                   exact z_to hs ⟨rfl, rfl, rfl, rfl, rfl, rfl, trivial⟩)
                | (rw [show exA S (nI f) t kn (j + 1) = exA S (nI f) t kn j from if_neg (fun z => by first | exact z.2 c_71 | (have z1 := z.1; simp [xP, c_25, c_36, c_47] at z1; done))] at hs
                   exact z_to hs ⟨rfl, rfl, rfl, rfl, rfl, rfl, trivial⟩)
            · refine z_aload_n g dX11_exceptedFrom_74 rfl ?_
              refine z_getR g fl_X11_95 hM.k0 (by decide) rfl (hM.ref (k := 34) (by decide)) dX11_exceptedFrom_75 ?_
              refine z_iload g dX11_exceptedFrom_78 rfl ?_
              refine z_ialdk g (hM.kA1 (k := 34) (by decide)) (by decide) (vp_in_nI (by rw [hM.lnI (k := 34) (by decide)]; show _ < 40; omega) (by rw [hM.lnI (k := 34) (by decide)]; decide)) dX11_exceptedFrom_80 ?_
              rw [nI_clamp (by omega), hM.row (k := 34) (by decide) (by decide)]
              refine z_goto (tgt := 86) g dX11_exceptedFrom_81 (by decide) ?_
              refine z_istore g dX11_exceptedFrom_86 (by rw [hN]; decide) ?_
              refine z_iinc1 g dX11_exceptedFrom_88 rfl (by rw [hN]; decide) ?_
              refine z_goto (tgt := 8) g dX11_exceptedFrom_91 (by decide) ?_
              have hs := ih (k - 1) (by omega) (j + 1) (by omega)
              rw [nI_s]
              first
                | (rw [show exA S (nI f) t kn (j + 1) = gA S 34 j from if_pos ⟨by simp [xP, c_25, c_36, c_47], c_71⟩] at hs
                   exact z_to hs ⟨rfl, rfl, rfl, rfl, rfl, rfl, trivial⟩)
                | (rw [show exA S (nI f) t kn (j + 1) = exA S (nI f) t kn j from if_neg (fun z => by first | exact z.2 c_71 | (have z1 := z.1; simp [xP, c_25, c_36, c_47] at z1; done))] at hs
                   exact z_to hs ⟨rfl, rfl, rfl, rfl, rfl, rfl, trivial⟩)
  refine z_sipush (v := 10000) g dX11_exceptedFrom_0 (by decide) ?_
  refine z_istore g dX11_exceptedFrom_3 (by rw [hN]; decide) ?_
  refine z_iconst (v := 0) g dX11_exceptedFrom_5 (by decide) ?_
  refine z_istore g dX11_exceptedFrom_6 (by rw [hN]; decide) ?_
  exact z_to (loop _ 0 rfl) ⟨rfl, rfl, rfl, rfl, rfl, rfl, trivial⟩
set_option maxHeartbeats 4000000 in
set_option maxRecDepth 100000 in
theorem n_bits (E : Ev) (M : Mm) (n0 : Nat) (hn0 : n0 < 2 ^ 31) : CT E yX11_bits cX11_bits 3 (some .int) 1 0 0 [.int (nI n0)] M (ansI (nI (pop n0)) M) noX := by
  refine CT.of rfl (Nat.le_of_ble_eq_true rfl) (fun X g hrt hno hE hN hR hI => ?_)
  subst hE
  have loop : ∀ (n j : Nat) (hn : n < 2 ^ 31) (hj : j + pop n = pop n0), Z X M 0 0 4 [(1, .int (nI j)), (2, .int (nI n))] [] := by
    intro n
    induction n using Nat.strongRecOn with
    | _ n ih =>
      intro j hn hj
      refine z_iload_n g dX11_bits_4 rfl ?_
      refine z_if_le (tgt := 20) g dX11_bits_5 (by decide) (fun c_5 => ?_) (fun c_5 => ?_)
      · have h0 : n = 0 := by rw [show (0 : Int32) = nI 0 from rfl, nI_leI (by omega) (by omega)] at c_5; omega
        rw [h0] at hj
        rw [show pop 0 = 0 from pcf_z 32, Nat.add_zero] at hj
        rw [hj]
        refine z_iload_n g dX11_bits_20 rfl ?_
        exact z_iret g hrt rfl (by decide) (by decide) dX11_bits_21 ⟨rfl, rfl⟩
      have h0 : 0 < n := by
        rcases Nat.eq_zero_or_pos n with z | z
        · exact absurd (by rw [z]; exact Int32.le_refl _) c_5
        · exact z
      obtain ⟨e1, e2⟩ := pop_dn h0 hn
      refine z_iinc1 g dX11_bits_8 rfl (by rw [hN]; decide) ?_
      refine z_iload_n g dX11_bits_11 rfl ?_
      refine z_iload_n g dX11_bits_12 rfl ?_
      refine z_iconst (v := 1) g dX11_bits_13 (by decide) ?_
      refine z_isub g dX11_bits_14 ?_
      rw [show nI n - 1 = nI (n - 1) from pk_sub (a := n) (b := 1) (by omega)]
      refine z_iand g dX11_bits_15 ?_
      rw [nI_and]
      refine z_istore_n g dX11_bits_16 (by rw [hN]; decide) ?_
      refine z_goto (tgt := 4) g dX11_bits_17 (by decide) ?_
      rw [nI_s]
      exact z_to (ih (n &&& (n - 1)) e2 (j + 1) (by omega) (by omega)) ⟨rfl, rfl, trivial⟩
  refine z_iconst (v := 0) g dX11_bits_0 (by decide) ?_
  refine z_istore_n g dX11_bits_1 (by rw [hN]; decide) ?_
  refine z_iload_n g dX11_bits_2 rfl ?_
  refine z_istore_n g dX11_bits_3 (by rw [hN]; decide) ?_
  exact z_to (loop n0 0 hn0 (Nat.zero_add _)) ⟨rfl, rfl, trivial⟩
set_option maxHeartbeats 4000000 in
set_option maxRecDepth 100000 in
theorem n_isWd (E : Ev) (M : Mm) (w : Int64) (K : Nat) (hK : K ≤ 12) : CT E yX11_isWord cX11_isWord 7 (some .boolean) 1 0 0 [.long w, .int (nI K)] M (ansI (b2i (isWd K w)) M) noX := by
  refine CT.of rfl (Nat.le_of_ble_eq_true rfl) (fun X g hrt hno hE hN hR hI => ?_)
  subst hE
  have fin : ∀ (j : Nat) (hj : j ≤ 63) (hle : j ≤ K → isWd K w = true) (hgt : K < j → isWd K w = false), Z X M 0 0 58 [(2, .int (nI K)), (5, .int (nI j)), (6, .int 1)] [] := by
    intro j hj hle hgt
    refine z_iload g dX11_isWord_58 rfl ?_
    refine z_if_eq (tgt := 73) g dX11_isWord_60 (by decide) (fun c_60 => (by exact absurd c_60 (by decide))) (fun c_60 => ?_)
    refine z_iload g dX11_isWord_63 rfl ?_
    refine z_iload_n g dX11_isWord_65 rfl ?_
    refine z_icmp_gt (tgt := 73) g dX11_isWord_66 (by decide) (fun c_66 => ?_) (fun c_66 => ?_)
    · rw [show isWd K w = false from hgt (by rw [nI_ltI (by omega) (by omega)] at c_66; exact c_66)] at hrt
      refine z_iconst (v := 0) g dX11_isWord_73 (by decide) ?_
      exact z_iret g hrt rfl (by decide) (by decide) dX11_isWord_74 ⟨rfl, rfl⟩
    rw [show isWd K w = true from hle (by rw [nI_ltI (by omega) (by omega)] at c_66; omega)] at hrt
    refine z_iconst (v := 1) g dX11_isWord_69 (by decide) ?_
    refine z_goto (tgt := 74) g dX11_isWord_70 (by decide) ?_
    exact z_iret g hrt (by decide) (by decide) (by decide) dX11_isWord_74 ⟨rfl, rfl⟩
  have fin0 : ∀ (j : Nat) (ha : isWd K w = false), Z X M 0 0 58 [(2, .int (nI K)), (5, .int (nI j)), (6, .int 0)] [] := by
    intro j ha
    refine z_iload g dX11_isWord_58 rfl ?_
    refine z_if_eq (tgt := 73) g dX11_isWord_60 (by decide) (fun _ => ?_) (fun c => absurd rfl c)
    refine z_iconst (v := 0) g dX11_isWord_73 (by decide) ?_
    exact z_iret g hrt rfl (by decide) (by decide) dX11_isWord_74 ⟨by rw [ha]; rfl, rfl⟩
  have loop0 : ∀ (j m0 : Nat) (ha : isWd K w = false), Z X M 0 0 18 [(2, .int (nI K)), (3, .long (lN m0)), (5, .int (nI j)), (6, .int 0)] [] := by
    intro j m0 ha
    refine z_iload g dX11_isWord_18 rfl ?_
    refine z_if_eq (tgt := 58) g dX11_isWord_20 (by decide) (fun _ => ?_) (fun c => absurd rfl c)
    exact z_to (fin0 j ha) ⟨rfl, rfl, rfl, trivial⟩
  have loop : ∀ (m0 : Nat) (j : Nat) (hm : m0 < 2 ^ 63) (hj : j ≤ 63) (hmj : m0 < 2 ^ (63 - j)) (hle : j ≤ K → isWd K w = wN (K - j) m0) (hgt : K < j → isWd K w = false), Z X M 0 0 18 [(2, .int (nI K)), (3, .long (lN m0)), (5, .int (nI j)), (6, .int 1)] [] := by
    intro m0
    induction m0 using Nat.strongRecOn with
    | _ m0 ih =>
      intro j hm hj hmj hle hgt
      refine z_iload g dX11_isWord_18 rfl ?_
      refine z_if_eq (tgt := 58) g dX11_isWord_20 (by decide) (fun c => absurd c (by decide)) (fun _ => ?_)
      refine z_lload_n g dX11_isWord_23 rfl ?_
      refine z_lconst (v := 0) g dX11_isWord_24 (by decide) ?_
      refine z_lcmp g dX11_isWord_25 ?_
      refine z_if_le (tgt := 58) g dX11_isWord_26 (by decide) (fun c_26 => ?_) (fun c_26 => ?_)
      · have h0 : m0 = 0 := (c0_le hm).mp c_26
        exact z_to (fin j hj (fun h => by rw [hle h, h0]; cases (K - j) <;> rfl) hgt) ⟨rfl, rfl, rfl, trivial⟩
      have h0 : m0 ≠ 0 := fun z => c_26 ((c0_le hm).mpr z)
      have hj62 : j ≤ 62 := by
        rcases Nat.lt_or_ge j 63 with z | z
        · omega
        · rw [show 63 - j = 0 by omega] at hmj; omega
      refine z_lload_n g dX11_isWord_29 rfl ?_
      refine z_ldc2 g dX11_isWord_30 kc_X11_193 ?_
      refine z_lrem g dX11_isWord_33 (by decide) ?_
      rw [rem27 hm]
      refine z_lconst (v := 0) g dX11_isWord_34 (by decide) ?_
      refine z_lcmp g dX11_isWord_35 ?_
      refine z_if_le (tgt := 43) g dX11_isWord_36 (by decide) (fun c_36 => ?_) (fun c_36 => ?_)
      · refine z_iconst (v := 0) g dX11_isWord_43 (by decide) ?_
        refine z_istore g dX11_isWord_44 (by rw [hN]; decide) ?_
        refine z_lload_n g dX11_isWord_46 rfl ?_
        refine z_ldc2 g dX11_isWord_47 kc_X11_193 ?_
        refine z_ldiv g dX11_isWord_50 (by decide) ?_
        rw [div27 hm]
        refine z_lstore_n g dX11_isWord_51 (by rw [hN]; decide) ?_
        refine z_iinc1 g dX11_isWord_52 rfl (by rw [hN]; decide) ?_
        refine z_goto (tgt := 18) g dX11_isWord_55 (by decide) ?_
        rw [nI_s]
        first
          | (have hz : m0 % 27 = 0 := (c0_le (by omega)).mp c_36
             exact z_to (loop0 (j + 1) (m0 / 27) (by
               rcases Nat.lt_or_ge K j with z | z
               · exact hgt z
               · rw [hle z]
                 rcases hk : K - j with _ | k2
                 · exact decide_eq_false h0
                 · rw [wN, if_neg h0, if_pos hz])) ⟨rfl, rfl, rfl, rfl, trivial⟩)
          | (have hz : ¬ m0 % 27 = 0 := fun z => c_36 ((c0_le (by omega)).mpr z)
             refine z_to (ih (m0 / 27) (by omega) (j + 1) (by omega) (by omega) (by rw [show 63 - j = (63 - (j + 1)) + 1 by omega, Nat.pow_succ] at hmj; omega) (fun h => ?_) (fun h => ?_)) ⟨rfl, rfl, rfl, rfl, trivial⟩
             · rw [hle (by omega), show K - j = (K - (j + 1)) + 1 by omega, wN, if_neg h0, if_neg hz]
             · rcases Nat.lt_or_ge K j with z | z
               · exact hgt z
               · rw [hle z, show K - j = 0 by omega]; exact decide_eq_false h0)
      · refine z_iconst (v := 1) g dX11_isWord_39 (by decide) ?_
        refine z_goto (tgt := 44) g dX11_isWord_40 (by decide) ?_
        refine z_istore g dX11_isWord_44 (by rw [hN]; decide) ?_
        refine z_lload_n g dX11_isWord_46 rfl ?_
        refine z_ldc2 g dX11_isWord_47 kc_X11_193 ?_
        refine z_ldiv g dX11_isWord_50 (by decide) ?_
        rw [div27 hm]
        refine z_lstore_n g dX11_isWord_51 (by rw [hN]; decide) ?_
        refine z_iinc1 g dX11_isWord_52 rfl (by rw [hN]; decide) ?_
        refine z_goto (tgt := 18) g dX11_isWord_55 (by decide) ?_
        rw [nI_s]
        first
          | (have hz : m0 % 27 = 0 := (c0_le (by omega)).mp c_36
             exact z_to (loop0 (j + 1) (m0 / 27) (by
               rcases Nat.lt_or_ge K j with z | z
               · exact hgt z
               · rw [hle z]
                 rcases hk : K - j with _ | k2
                 · exact decide_eq_false h0
                 · rw [wN, if_neg h0, if_pos hz])) ⟨rfl, rfl, rfl, rfl, trivial⟩)
          | (have hz : ¬ m0 % 27 = 0 := fun z => c_36 ((c0_le (by omega)).mpr z)
             refine z_to (ih (m0 / 27) (by omega) (j + 1) (by omega) (by omega) (by rw [show 63 - j = (63 - (j + 1)) + 1 by omega, Nat.pow_succ] at hmj; omega) (fun h => ?_) (fun h => ?_)) ⟨rfl, rfl, rfl, rfl, trivial⟩
             · rw [hle (by omega), show K - j = (K - (j + 1)) + 1 by omega, wN, if_neg h0, if_neg hz]
             · rcases Nat.lt_or_ge K j with z | z
               · exact hgt z
               · rw [hle z, show K - j = 0 by omega]; exact decide_eq_false h0)
  refine z_lload_n g dX11_isWord_0 rfl ?_
  refine z_lstore_n g dX11_isWord_1 (by rw [hN]; decide) ?_
  refine z_iconst (v := 0) g dX11_isWord_2 (by decide) ?_
  refine z_istore g dX11_isWord_3 (by rw [hN]; decide) ?_
  refine z_lload_n g dX11_isWord_5 rfl ?_
  refine z_lconst (v := 0) g dX11_isWord_6 (by decide) ?_
  refine z_lcmp g dX11_isWord_7 ?_
  refine z_if_le (tgt := 15) g dX11_isWord_8 (by decide) (fun c_8 => ?_) (fun c_8 => ?_)
  · have hw : ¬ 0 < w := fun z => absurd ((lg_cmp_le _ _).mp c_8) (by rw [Int64.not_le]; exact z)
    refine z_iconst (v := 0) g dX11_isWord_15 (by decide) ?_
    refine z_istore g dX11_isWord_16 (by rw [hN]; decide) ?_
    refine z_iload g dX11_isWord_18 rfl ?_
    refine z_if_eq (tgt := 58) g dX11_isWord_20 (by decide) (fun _ => ?_) (fun c => absurd rfl c)
    exact z_to (fin0 0 (by unfold isWd; rw [decide_eq_false hw]; rfl)) ⟨rfl, rfl, rfl, trivial⟩
  have hw : 0 < w := lgt_of c_8
  obtain ⟨m, h1, h2, h3, h4⟩ := lN_of w hw
  refine z_iconst (v := 1) g dX11_isWord_11 (by decide) ?_
  refine z_goto (tgt := 16) g dX11_isWord_12 (by decide) ?_
  refine z_istore g dX11_isWord_16 (by rw [hN]; decide) ?_
  have h5 := loop m 0 h2 (by omega) (by exact h2) (fun _ => by unfold isWd; rw [decide_eq_true hw, h4]; rfl) (fun h => absurd h (Nat.not_lt_zero _))
  rw [← h3] at h5
  exact z_to h5 ⟨rfl, rfl, rfl, rfl, trivial⟩
