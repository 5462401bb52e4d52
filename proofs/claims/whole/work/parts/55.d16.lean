/-! ===== the model: assign, ways (printed by gen/mod_d16.py) ===== -/
set_option maxHeartbeats 4000000 in
set_option maxRecDepth 100000 in
theorem n_asg (E : Ev) {A : Nat → Nat} {m : Nat} {S : Ms} (M : Mm) (hM : RM A m S M) (hV : INV S) : CT E yX11_assigns cX11_assigns 7 none 4 0 0 [.ref m] M ((fun r' M' => r' = none ∧ RM A m S M' ∧ FM A m M M' ∧ eq16 (fI M' (A 67), fI M' (A 66)) (asA S (cn S 2)))) noX := by
  refine CT.of rfl (Nat.le_of_ble_eq_true rfl) (fun X g hrt hno hE hN hR hI => ?_)
  subst hE
  obtain ⟨v1, v2, v17, -, -, -, v51, -⟩ := id hV.1
  have hf24 := v2.2
  have hr4 := v51.2
  have hwl : A 67 ≠ A 66 := hM.ne (by decide) (by decide) (by decide)
  have feats : ∀ (k n : Nat) (M1 : Mm) (hk : k + n = cn S 2) (hM1 : RM A m S M1) (fr1 : FM A m M M1) (he : eq16 (fI M1 (A 67), fI M1 (A 66)) (asA S n)), Z X M1 0 0 44 [(0, .ref m), (1, .int (nI n))] [] := by
    intro k
    induction k using Nat.strongRecOn with
    | _ k ihn =>
      intro n M1 hk hM1 fr1 he
      refine z_iload_n g dX11_assigns_44 rfl ?_
      refine z_aload_n g dX11_assigns_45 rfl ?_
      refine z_getI g fl_X11_186 hM1.k0 (by decide) rfl dX11_assigns_46 ?_
      rw [hM1.sc (k := 2) (by decide) (by decide)]
      rw [v2.1]
      refine z_icmp_ge (tgt := 185) g dX11_assigns_49 (by decide) (fun c_49 => ?_) (fun c_49 => ?_)
      · rw [nI_leI (by omega) (by omega)] at c_49
        rw [show n = cn S 2 by omega] at he
        exact z_vret g hrt (by decide) (by decide) dX11_assigns_185 ⟨rfl, hM1, fr1, he⟩
      have hn : n < cn S 2 := by rw [nI_leI (by omega) (by omega)] at c_49; omega
      have k127 : ∀ (M1 : Mm) (hM1 : RM A m S M1) (fr1 : FM A m M M1) (he : eq16 (fI M1 (A 67), fI M1 (A 66)) (asA S n)), Z X M1 0 0 127 [(0, .ref m), (1, .int (nI n)), (2, .int (csv S n 0)), (3, .int (csv S n 1)), (4, .int (csv S n 2))] [.int (csv S n 3)] := by
        intro M1 hM1 fr1 he
        refine z_istore g dX11_assigns_127 (by rw [hN]; decide) ?_
        refine z_bipush (v := 15) g dX11_assigns_129 (by decide) ?_
        refine z_istore g dX11_assigns_131 (by rw [hN]; decide) ?_
        have hR16 : eq16 (asF (csv S n) (fI M1 (A 67), fI M1 (A 66)) 15) (asA S (n + 1)) := asF_16 (by decide) he
        obtain ⟨R, hRe⟩ : ∃ R, R = asF (csv S n) (fI M1 (A 67), fI M1 (A 66)) 15 := ⟨_, rfl⟩
        rw [← hRe] at hR16
        have sets : ∀ (ms : Nat) (P : WL) (hms : ms < 16) (hf : asF (csv S n) P ms = R), Z X (W2 M1 (A 67) (A 66) P) 0 0 133 [(0, .ref m), (1, .int (nI n)), (2, .int (csv S n 0)), (3, .int (csv S n 1)), (4, .int (csv S n 2)), (5, .int (csv S n 3)), (6, .int (nI ms))] [] := by
          intro ms
          induction ms with
          | zero =>
            intro P hms hf
            refine z_iload g dX11_assigns_133 rfl ?_
            refine z_if_le (tgt := 179) g dX11_assigns_135 (by decide) (fun _ => ?_) (fun c => absurd (by decide) c)
            refine z_iinc1 g dX11_assigns_179 rfl (by rw [hN]; decide) ?_
            refine z_goto (tgt := 44) g dX11_assigns_182 (by decide) ?_
            rw [nI_s]
            have hP : P = R := hf
            subst hP
            exact z_to (ihn (k - 1) (by omega) (n + 1) _ (by omega) (hM1.W2 _) (fr1.tr (FM.W2 _)) (by rw [W2_w hwl, W2_l]; exact hR16)) ⟨rfl, rfl, trivial⟩
          | succ ms ihs =>
            intro P hms hf
            refine z_iload g dX11_assigns_133 rfl ?_
            refine z_if_le (tgt := 179) g dX11_assigns_135 (by decide) (fun c_135 => (by exact absurd c_135 (by rw [show (0 : Int32) = nI 0 from rfl, nI_leI (by omega) (by omega)]; omega))) (fun c_135 => ?_)
            refine z_aload_n g dX11_assigns_138 rfl ?_
            refine z_iload g dX11_assigns_139 rfl ?_
            refine z_iconst (v := 1) g dX11_assigns_141 (by decide) ?_
            refine z_iload_n g dX11_assigns_142 rfl ?_
            refine z_callV g _ _ cv_X11_321 (n_joi _ M1 hM1 _ (ms + 1) 0 (by omega) (by decide) (csv S n 0)) (hM1.W2 _).k0 (by decide) rfl (by rw [hR]; decide) (by rw [hR]; decide) (by rw [hR]; decide) (Nat.le_of_ble_eq_true rfl) rfl dX11_assigns_143 (fun _ _ h => False.elim h) (fun r_143 M_143 h_143 => ?_)
            obtain ⟨rfl, rfl⟩ := h_143
            refine z_aload_n g dX11_assigns_146 rfl ?_
            refine z_iload g dX11_assigns_147 rfl ?_
            refine z_iconst (v := 2) g dX11_assigns_149 (by decide) ?_
            refine z_iload_n g dX11_assigns_150 rfl ?_
            refine z_callV g _ _ cv_X11_321 (n_joi _ M1 hM1 _ (ms + 1) 1 (by omega) (by decide) (csv S n 1)) (hM1.W2 _).k0 (by decide) rfl (by rw [hR]; decide) (by rw [hR]; decide) (by rw [hR]; decide) (Nat.le_of_ble_eq_true rfl) rfl dX11_assigns_151 (fun _ _ h => False.elim h) (fun r_151 M_151 h_151 => ?_)
            obtain ⟨rfl, rfl⟩ := h_151
            refine z_aload_n g dX11_assigns_154 rfl ?_
            refine z_iload g dX11_assigns_155 rfl ?_
            refine z_iconst (v := 4) g dX11_assigns_157 (by decide) ?_
            refine z_iload g dX11_assigns_158 rfl ?_
            refine z_callV g _ _ cv_X11_321 (n_joi _ M1 hM1 _ (ms + 1) 2 (by omega) (by decide) (csv S n 2)) (hM1.W2 _).k0 (by decide) rfl (by rw [hR]; decide) (by rw [hR]; decide) (by rw [hR]; decide) (Nat.le_of_ble_eq_true rfl) rfl dX11_assigns_160 (fun _ _ h => False.elim h) (fun r_160 M_160 h_160 => ?_)
            obtain ⟨rfl, rfl⟩ := h_160
            refine z_aload_n g dX11_assigns_163 rfl ?_
            refine z_iload g dX11_assigns_164 rfl ?_
            refine z_bipush (v := 8) g dX11_assigns_166 (by decide) ?_
            refine z_iload g dX11_assigns_168 rfl ?_
            refine z_callV g _ _ cv_X11_321 (n_joi _ M1 hM1 _ (ms + 1) 3 (by omega) (by decide) (csv S n 3)) (hM1.W2 _).k0 (by decide) rfl (by rw [hR]; decide) (by rw [hR]; decide) (by rw [hR]; decide) (Nat.le_of_ble_eq_true rfl) rfl dX11_assigns_170 (fun _ _ h => False.elim h) (fun r_170 M_170 h_170 => ?_)
            obtain ⟨rfl, rfl⟩ := h_170
            refine z_iincm g dX11_assigns_173 rfl (by rw [hN]; decide) ?_
            refine z_goto (tgt := 133) g dX11_assigns_176 (by decide) ?_
            rw [show nI (ms + 1) + (-1) = nI ms from pk_m1 ms]
            exact z_to (ihs (jo4 P (ms + 1) (csv S n)) (by omega) hf) ⟨rfl, rfl, rfl, rfl, rfl, rfl, rfl, trivial⟩
        have h9 := sets 15 (fI M1 (A 67), fI M1 (A 66)) (by decide) hRe.symm
        rw [W2_self] at h9
        exact z_to h9 ⟨rfl, rfl, rfl, rfl, rfl, rfl, rfl, trivial⟩
      have k107 : ∀ (M1 : Mm) (hM1 : RM A m S M1) (fr1 : FM A m M M1) (he : eq16 (fI M1 (A 67), fI M1 (A 66)) (asA S n)), Z X M1 0 0 107 [(0, .ref m), (1, .int (nI n)), (2, .int (csv S n 0)), (3, .int (csv S n 1))] [.int (csv S n 2)] := by
        intro M1 hM1 fr1 he
        refine z_istore g dX11_assigns_107 (by rw [hN]; decide) ?_
        refine z_aload_n g dX11_assigns_109 rfl ?_
        refine z_getI g fl_X11_305 hM1.k0 (by decide) rfl dX11_assigns_110 ?_
        rw [hM1.sc (k := 51) (by decide) (by decide)]
        rw [v51.1]
        refine z_iconst (v := 3) g dX11_assigns_113 (by decide) ?_
        refine z_icmp_le (tgt := 126) g dX11_assigns_114 (by decide) (fun c_c => ?_) (fun c_c => ?_)
        · have hle : cn S 51 ≤ 3 := by rw [show (3 : Int32) = nI 3 from rfl, nI_leI (by omega) (by omega)] at c_c; omega
          refine z_iconst (v := -1) g dX11_assigns_126 (by decide) ?_
          rw [show (-1 : Int32) = csv S n 3 from (if_neg (by omega)).symm]
          exact z_to (k127 M1 hM1 fr1 he) ⟨rfl, rfl, rfl, rfl, rfl, trivial⟩
        have hgt : 3 < cn S 51 := by rw [show (3 : Int32) = nI 3 from rfl, nI_leI (by omega) (by omega)] at c_c; omega
        refine z_aload_n g dX11_assigns_117 rfl ?_
        refine z_iconst (v := 3) g dX11_assigns_118 (by decide) ?_
        refine z_iload_n g dX11_assigns_119 rfl ?_
        refine z_callV g _ _ cv_X11_318 (n_cst _ M1 hM1 hV 3 n (by omega) hn) hM1.k0 (by decide) rfl (by rw [hR]; decide) (by rw [hR]; decide) (by rw [hR]; decide) (Nat.le_of_ble_eq_true rfl) rfl dX11_assigns_120 (fun _ _ h => False.elim h) (fun r_120 M_120 h_120 => ?_)
        obtain ⟨rfl, se⟩ := h_120
        rw [show cstA S 3 n = csv S n 3 from (if_pos (by omega)).symm]
        refine z_goto (tgt := 127) g dX11_assigns_123 (by decide) ?_
        exact z_to (k127 M_120 (hM1.SE se) (fr1.tr se.FM) (by rw [SE.r6 hM1 se (Or.inr rfl), SE.r6 hM1 se (Or.inl rfl)]; exact he)) ⟨rfl, rfl, rfl, rfl, rfl, trivial⟩
      have k88 : ∀ (M1 : Mm) (hM1 : RM A m S M1) (fr1 : FM A m M M1) (he : eq16 (fI M1 (A 67), fI M1 (A 66)) (asA S n)), Z X M1 0 0 88 [(0, .ref m), (1, .int (nI n)), (2, .int (csv S n 0))] [.int (csv S n 1)] := by
        intro M1 hM1 fr1 he
        refine z_istore_n g dX11_assigns_88 (by rw [hN]; decide) ?_
        refine z_aload_n g dX11_assigns_89 rfl ?_
        refine z_getI g fl_X11_305 hM1.k0 (by decide) rfl dX11_assigns_90 ?_
        rw [hM1.sc (k := 51) (by decide) (by decide)]
        rw [v51.1]
        refine z_iconst (v := 2) g dX11_assigns_93 (by decide) ?_
        refine z_icmp_le (tgt := 106) g dX11_assigns_94 (by decide) (fun c_c => ?_) (fun c_c => ?_)
        · have hle : cn S 51 ≤ 2 := by rw [show (2 : Int32) = nI 2 from rfl, nI_leI (by omega) (by omega)] at c_c; omega
          refine z_iconst (v := -1) g dX11_assigns_106 (by decide) ?_
          rw [show (-1 : Int32) = csv S n 2 from (if_neg (by omega)).symm]
          exact z_to (k107 M1 hM1 fr1 he) ⟨rfl, rfl, rfl, rfl, trivial⟩
        have hgt : 2 < cn S 51 := by rw [show (2 : Int32) = nI 2 from rfl, nI_leI (by omega) (by omega)] at c_c; omega
        refine z_aload_n g dX11_assigns_97 rfl ?_
        refine z_iconst (v := 2) g dX11_assigns_98 (by decide) ?_
        refine z_iload_n g dX11_assigns_99 rfl ?_
        refine z_callV g _ _ cv_X11_318 (n_cst _ M1 hM1 hV 2 n (by omega) hn) hM1.k0 (by decide) rfl (by rw [hR]; decide) (by rw [hR]; decide) (by rw [hR]; decide) (Nat.le_of_ble_eq_true rfl) rfl dX11_assigns_100 (fun _ _ h => False.elim h) (fun r_100 M_100 h_100 => ?_)
        obtain ⟨rfl, se⟩ := h_100
        rw [show cstA S 2 n = csv S n 2 from (if_pos (by omega)).symm]
        refine z_goto (tgt := 107) g dX11_assigns_103 (by decide) ?_
        exact z_to (k107 M_100 (hM1.SE se) (fr1.tr se.FM) (by rw [SE.r6 hM1 se (Or.inr rfl), SE.r6 hM1 se (Or.inl rfl)]; exact he)) ⟨rfl, rfl, rfl, rfl, trivial⟩
      have k69 : ∀ (M1 : Mm) (hM1 : RM A m S M1) (fr1 : FM A m M M1) (he : eq16 (fI M1 (A 67), fI M1 (A 66)) (asA S n)), Z X M1 0 0 69 [(0, .ref m), (1, .int (nI n))] [.int (csv S n 0)] := by
        intro M1 hM1 fr1 he
        refine z_istore_n g dX11_assigns_69 (by rw [hN]; decide) ?_
        refine z_aload_n g dX11_assigns_70 rfl ?_
        refine z_getI g fl_X11_305 hM1.k0 (by decide) rfl dX11_assigns_71 ?_
        rw [hM1.sc (k := 51) (by decide) (by decide)]
        rw [v51.1]
        refine z_iconst (v := 1) g dX11_assigns_74 (by decide) ?_
        refine z_icmp_le (tgt := 87) g dX11_assigns_75 (by decide) (fun c_c => ?_) (fun c_c => ?_)
        · have hle : cn S 51 ≤ 1 := by rw [show (1 : Int32) = nI 1 from rfl, nI_leI (by omega) (by omega)] at c_c; omega
          refine z_iconst (v := -1) g dX11_assigns_87 (by decide) ?_
          rw [show (-1 : Int32) = csv S n 1 from (if_neg (by omega)).symm]
          exact z_to (k88 M1 hM1 fr1 he) ⟨rfl, rfl, rfl, trivial⟩
        have hgt : 1 < cn S 51 := by rw [show (1 : Int32) = nI 1 from rfl, nI_leI (by omega) (by omega)] at c_c; omega
        refine z_aload_n g dX11_assigns_78 rfl ?_
        refine z_iconst (v := 1) g dX11_assigns_79 (by decide) ?_
        refine z_iload_n g dX11_assigns_80 rfl ?_
        refine z_callV g _ _ cv_X11_318 (n_cst _ M1 hM1 hV 1 n (by omega) hn) hM1.k0 (by decide) rfl (by rw [hR]; decide) (by rw [hR]; decide) (by rw [hR]; decide) (Nat.le_of_ble_eq_true rfl) rfl dX11_assigns_81 (fun _ _ h => False.elim h) (fun r_81 M_81 h_81 => ?_)
        obtain ⟨rfl, se⟩ := h_81
        rw [show cstA S 1 n = csv S n 1 from (if_pos (by omega)).symm]
        refine z_goto (tgt := 88) g dX11_assigns_84 (by decide) ?_
        exact z_to (k88 M_81 (hM1.SE se) (fr1.tr se.FM) (by rw [SE.r6 hM1 se (Or.inr rfl), SE.r6 hM1 se (Or.inl rfl)]; exact he)) ⟨rfl, rfl, rfl, trivial⟩
      refine z_aload_n g dX11_assigns_52 rfl ?_
      refine z_getI g fl_X11_305 hM1.k0 (by decide) rfl dX11_assigns_53 ?_
      rw [hM1.sc (k := 51) (by decide) (by decide)]
      rw [v51.1]
      refine z_if_le (tgt := 68) g dX11_assigns_56 (by decide) (fun c_c => ?_) (fun c_c => ?_)
      · have hle : cn S 51 ≤ 0 := by rw [show (0 : Int32) = nI 0 from rfl, nI_leI (by omega) (by omega)] at c_c; omega
        refine z_iconst (v := -1) g dX11_assigns_68 (by decide) ?_
        rw [show (-1 : Int32) = csv S n 0 from (if_neg (by omega)).symm]
        exact z_to (k69 M1 hM1 fr1 he) ⟨rfl, rfl, trivial⟩
      have hgt : 0 < cn S 51 := by rw [show (0 : Int32) = nI 0 from rfl, nI_leI (by omega) (by omega)] at c_c; omega
      refine z_aload_n g dX11_assigns_59 rfl ?_
      refine z_iconst (v := 0) g dX11_assigns_60 (by decide) ?_
      refine z_iload_n g dX11_assigns_61 rfl ?_
      refine z_callV g _ _ cv_X11_318 (n_cst _ M1 hM1 hV 0 n (by omega) hn) hM1.k0 (by decide) rfl (by rw [hR]; decide) (by rw [hR]; decide) (by rw [hR]; decide) (Nat.le_of_ble_eq_true rfl) rfl dX11_assigns_62 (fun _ _ h => False.elim h) (fun r_62 M_62 h_62 => ?_)
      obtain ⟨rfl, se⟩ := h_62
      rw [show cstA S 0 n = csv S n 0 from (if_pos (by omega)).symm]
      refine z_goto (tgt := 69) g dX11_assigns_65 (by decide) ?_
      exact z_to (k69 M_62 (hM1.SE se) (fr1.tr se.FM) (by rw [SE.r6 hM1 se (Or.inr rfl), SE.r6 hM1 se (Or.inl rfl)]; exact he)) ⟨rfl, rfl, trivial⟩
  have mid : ∀ (P : WL) (hP : ∀ i, i < 16 → P.1 i = 0 ∧ P.2 i = -1), Z X (W2 M (A 67) (A 66) P) 0 0 28 [(0, .ref m)] [] := by
    intro P hP
    refine z_aload_n g dX11_assigns_28 rfl ?_
    refine z_getR g fl_X11_177 (hM.W2 _).k0 (by decide) rfl ((hM.W2 _).ref (k := 66) (by decide)) dX11_assigns_29 ?_
    refine z_iconst (v := 0) g dX11_assigns_32 (by decide) ?_
    refine z_iconst (v := 0) g dX11_assigns_33 (by decide) ?_
    rw [show (Value.int 0 :: Value.int 0 :: [Value.ref (A 66)]) = (Value.int 0 :: Value.int (nI 0) :: [Value.ref (A 66)]) from rfl]
    refine z_iastk g ((hM.W2 _).kA1 (k := 66) (by decide)) (by decide) (vp_in_nI (by rw [(hM.W2 _).lnI (k := 66) (by decide)]; show _ < 16; omega) (by rw [(hM.W2 _).lnI (k := 66) (by decide)]; decide)) dX11_assigns_34 ?_
    rw [nI_clamp (by omega), W2_sl]
    refine z_aload_n g dX11_assigns_35 rfl ?_
    refine z_getR g fl_X11_180 (hM.W2 _).k0 (by decide) rfl ((hM.W2 _).ref (k := 67) (by decide)) dX11_assigns_36 ?_
    refine z_iconst (v := 0) g dX11_assigns_39 (by decide) ?_
    refine z_iconst (v := 1) g dX11_assigns_40 (by decide) ?_
    rw [show (Value.int 1 :: Value.int 0 :: [Value.ref (A 67)]) = (Value.int 1 :: Value.int (nI 0) :: [Value.ref (A 67)]) from rfl]
    refine z_iastk g ((hM.W2 _).kA1 (k := 67) (by decide)) (by decide) (vp_in_nI (by rw [(hM.W2 _).lnI (k := 67) (by decide)]; show _ < 16; omega) (by rw [(hM.W2 _).lnI (k := 67) (by decide)]; decide)) dX11_assigns_41 ?_
    rw [nI_clamp (by omega), W2_sw hwl]
    refine z_iconst (v := 0) g dX11_assigns_42 (by decide) ?_
    refine z_istore_n g dX11_assigns_43 (by rw [hN]; decide) ?_
    refine z_to (feats _ 0 _ rfl (hM.W2 _) (FM.W2 _) (fun i hi => ?_)) ⟨rfl, rfl, trivial⟩
    rw [W2_w hwl, W2_l]
    dsimp only [pu, asA, as0]
    by_cases e : i = 0
    · rw [if_pos e, if_pos e, if_pos e, if_pos e]; exact ⟨rfl, rfl⟩
    · rw [if_neg e, if_neg e, if_neg e, if_neg e]; exact hP i hi
  have init : ∀ (k j : Nat) (P : WL) (hk : k + j = 16) (hP : ∀ i, i < j → P.1 i = 0 ∧ P.2 i = -1), Z X (W2 M (A 67) (A 66) P) 0 0 2 [(0, .ref m), (1, .int (nI j))] [] := by
    intro k
    induction k using Nat.strongRecOn with
    | _ k ih =>
      intro j P hk hP
      refine z_iload_n g dX11_assigns_2 rfl ?_
      refine z_bipush (v := 16) g dX11_assigns_3 (by decide) ?_
      refine z_icmp_ge (tgt := 28) g dX11_assigns_5 (by decide) (fun c_5 => ?_) (fun c_5 => ?_)
      · rw [show (16 : Int32) = nI 16 from rfl, nI_leI (by omega) (by omega)] at c_5
        exact z_to (mid P (fun i hi => hP i (by omega))) ⟨rfl, trivial⟩
      have h5 : j < 16 := by rw [show (16 : Int32) = nI 16 from rfl, nI_leI (by omega) (by omega)] at c_5; omega
      refine z_aload_n g dX11_assigns_8 rfl ?_
      refine z_getR g fl_X11_177 (hM.W2 _).k0 (by decide) rfl ((hM.W2 _).ref (k := 66) (by decide)) dX11_assigns_9 ?_
      refine z_iload_n g dX11_assigns_12 rfl ?_
      refine z_iconst (v := (-1)) g dX11_assigns_13 (by decide) ?_
      refine z_iastk g ((hM.W2 _).kA1 (k := 66) (by decide)) (by decide) (vp_in_nI (by rw [(hM.W2 _).lnI (k := 66) (by decide)]; show _ < 16; omega) (by rw [(hM.W2 _).lnI (k := 66) (by decide)]; decide)) dX11_assigns_14 ?_
      rw [nI_clamp (by omega), W2_sl]
      refine z_aload_n g dX11_assigns_15 rfl ?_
      refine z_getR g fl_X11_180 (hM.W2 _).k0 (by decide) rfl ((hM.W2 _).ref (k := 67) (by decide)) dX11_assigns_16 ?_
      refine z_iload_n g dX11_assigns_19 rfl ?_
      refine z_iconst (v := 0) g dX11_assigns_20 (by decide) ?_
      refine z_iastk g ((hM.W2 _).kA1 (k := 67) (by decide)) (by decide) (vp_in_nI (by rw [(hM.W2 _).lnI (k := 67) (by decide)]; show _ < 16; omega) (by rw [(hM.W2 _).lnI (k := 67) (by decide)]; decide)) dX11_assigns_21 ?_
      rw [nI_clamp (by omega), W2_sw hwl]
      refine z_iinc1 g dX11_assigns_22 rfl (by rw [hN]; decide) ?_
      refine z_goto (tgt := 2) g dX11_assigns_25 (by decide) ?_
      rw [nI_s]
      refine z_to (ih (k - 1) (by omega) (j + 1) _ (by omega) (fun i hi => ?_)) ⟨rfl, rfl, trivial⟩
      dsimp only [pu]
      by_cases e : i = j
      · rw [if_pos e, if_pos e]; exact ⟨rfl, rfl⟩
      · rw [if_neg e, if_neg e]; exact hP i (by omega)
  refine z_iconst (v := 0) g dX11_assigns_0 (by decide) ?_
  refine z_istore_n g dX11_assigns_1 (by rw [hN]; decide) ?_
  rw [← W2_self M (A 67) (A 66)]
  exact z_to (init 16 0 _ rfl (fun i hi => absurd hi (Nat.not_lt_zero i))) ⟨rfl, rfl, trivial⟩
