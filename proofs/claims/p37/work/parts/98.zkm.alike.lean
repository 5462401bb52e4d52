/-! ===== the law: areAlike (printed by gen/mk_alike.py) ===== -/
theorem g_of_S {a b c : Int32} {w : Int64} {S : Ms} : (g_of a b c w S).2 = S := rz_S
theorem g_form_S {a b c : Int32} {w : Int64} {S : Ms} : (g_form a b c w S).2 = S := rz_S
theorem g_shown_S {a b c : Int32} {w : Int64} {S : Ms} : (g_shown a b c w S).2 = S := rz_S
theorem g_display_S {a b c : Int32} {w : Int64} {S : Ms} : (g_display a b c w S).2 = S := rz_S
theorem g_loss_S {a b c : Int32} {w : Int64} {S : Ms} : (g_loss a b c w S).2 = S := rz_S
theorem g_cost_S {a b c : Int32} {w : Int64} {S : Ms} : (g_cost a b c w S).2 = S := rz_S
theorem g_copy_S {a b c : Int32} {w : Int64} {S : Ms} : (g_copy a b c w S).2 = S := rz_S
theorem g_sign_S {a b c : Int32} {w : Int64} {S : Ms} : (g_sign a b c w S).2 = S := rz_S
theorem g_petOf_S {a b c : Int32} {w : Int64} {S : Ms} : (g_petOf a b c w S).2 = S := rz_S
theorem un0 {x : Nat} {S : Ms} {M : Mm} {v : Int32} (h : ∃ B, RX B x (wi S 0 v) M) : ∃ B, RX B x S M := h
set_option maxHeartbeats 4000000 in
set_option maxRecDepth 100000 in
theorem c_alike (E : Ev) {x y : Nat} {S : Ms} (M : Mm) (hT : TL2 x y S S M) (hV : INV S) (now v : Int32) : CT E yL_areAlike cL_areAlike 8 (some .boolean) 13 3392 106000 [.ref x, .ref y, .int now, .int v] M (fun r M' => r = some (.int 1) ∧ TL2 x y S S M') noX := by
  refine CT.of rfl (Nat.le_of_ble_eq_true rfl) (fun X g hrt hno hE hN hR hI => ?_)
  subst hE
  have fin : ∀ (M : Mm) (hT : TL2 x y S S M), Z X M 3392 106000 379 [(4, .int 1)] [] := by
    intro M hT
    refine z_iload g dL_areAlike_379 rfl ?_
    exact z_iret g hrt (by decide) (by decide) (by decide) dL_areAlike_381 ⟨rfl, hT⟩
  have outer : ∀ (m k : Nat) (M : Mm) (hm : m + k = 8) (hT : TL2 x y S S M), Z X M (64 + 416 * k) (2000 + 13000 * k) 32 [(0, .ref x), (1, .ref y), (2, .int now), (3, .int v), (4, .int 1), (5, .int (nI k))] [] := by
    intro m
    induction m using Nat.strongRecOn with
    | _ m ih =>
      intro k M hm hT
      refine z_iload g dL_areAlike_32 rfl ?_
      refine z_bipush (v := 8) g dL_areAlike_34 (by decide) ?_
      refine z_icmp_ge (tgt := 379) g dL_areAlike_36 (by decide) (fun c_36 => ?_) (fun c_36 => ?_)
      · exact z_to (z_wid (by omega) (by omega) (fin M hT)) ⟨rfl, trivial⟩
      · rw [show (8 : Int32) = nI 8 from rfl, nI_leI (by omega) (by omega)] at c_36
        have nx : ∀ (M : Mm) (hT : TL2 x y S S M), Z X M (64 + 416 * (k + 1)) (2000 + 13000 * (k + 1)) 373 [(0, .ref x), (1, .ref y), (2, .int now), (3, .int v), (4, .int 1), (5, .int (nI k))] [] := by
          intro M hT
          refine z_iinc1 g dL_areAlike_373 rfl (by rw [hN]; decide) ?_
          refine z_goto (tgt := 32) g dL_areAlike_376 (by decide) ?_
          rw [nI_s]
          exact z_to (z_wid (by omega) (by omega) (ih (m - 1) (by omega) (k + 1) _ (by omega) hT)) ⟨rfl, rfl, rfl, rfl, rfl, rfl, trivial⟩
        have inner : ∀ (u q : Nat) (M : Mm) (hu : u + q = 5) (hT : TL2 x y S S M), Z X M (64 + 416 * k + 256 + 32 * q) (2000 + 13000 * k + 8000 + 1000 * q) 321 [(0, .ref x), (1, .ref y), (2, .int now), (3, .int v), (4, .int 1), (5, .int (nI k)), (7, .int (nI q))] [] := by
          intro u
          induction u using Nat.strongRecOn with
          | _ u ih =>
            intro q M hu hT
            refine z_iload g dL_areAlike_321 rfl ?_
            refine z_iconst (v := 5) g dL_areAlike_323 (by decide) ?_
            refine z_icmp_ge (tgt := 373) g dL_areAlike_324 (by decide) (fun c_324 => ?_) (fun c_324 => ?_)
            · exact z_to (z_wid (by omega) (by omega) (nx M hT)) ⟨rfl, rfl, rfl, rfl, rfl, rfl, trivial⟩
            · rw [show (5 : Int32) = nI 5 from rfl, nI_leI (by omega) (by omega)] at c_324
              refine z_iload g dL_areAlike_327 rfl ?_
              refine z_if_eq (tgt := 373) g dL_areAlike_329 (by decide) (fun h => absurd h (by decide)) (fun _ => ?_)
              refine z_aload_n g dL_areAlike_332 rfl ?_
              refine z_bipush (v := 14) g dL_areAlike_333 (by decide) ?_
              refine z_iload g dL_areAlike_335 rfl ?_
              refine z_iload g dL_areAlike_337 rfl ?_
              refine z_iconst (v := 0) g dL_areAlike_339 (by decide) ?_
              refine z_lconst (v := 0) g dL_areAlike_340 (by decide) ?_
              obtain ⟨⟨B_341, hB_341⟩, -⟩ := id hT
              refine z_callSH g _ _ csh_L_does (e_petOf _ _ hB_341 hV _ _ _ _) rfl (by rw [hR]; decide) (by rw [hR]; show _ ≤ 3392; omega) (by rw [hR]; show _ ≤ 106000; omega) (Nat.le_of_ble_eq_true rfl) rfl dL_areAlike_341 (fun _ _ h => False.elim h) (fun r_341 M_341 h_341 => ?_)
              obtain ⟨rfl, hg_341, hB_341⟩ := h_341
              rw [g_petOf_S] at hB_341
              replace hT := (hT.step hV hg_341 hB_341).flip
              refine z_swp ?_
              clear hB_341 hg_341
              refine z_aload_n g dL_areAlike_344 rfl ?_
              refine z_bipush (v := 14) g dL_areAlike_345 (by decide) ?_
              refine z_iload g dL_areAlike_347 rfl ?_
              refine z_iload g dL_areAlike_349 rfl ?_
              refine z_iconst (v := 0) g dL_areAlike_351 (by decide) ?_
              refine z_lconst (v := 0) g dL_areAlike_352 (by decide) ?_
              obtain ⟨⟨B_353, hB_353⟩, -⟩ := id hT
              refine z_callSH g _ _ csh_L_does (e_petOf _ _ hB_353 hV _ _ _ _) rfl (by rw [hR]; decide) (by rw [hR]; show _ ≤ 3392; omega) (by rw [hR]; show _ ≤ 106000; omega) (Nat.le_of_ble_eq_true rfl) rfl dL_areAlike_353 (fun _ _ h => False.elim h) (fun r_353 M_353 h_353 => ?_)
              obtain ⟨rfl, hg_353, hB_353⟩ := h_353
              rw [g_petOf_S] at hB_353
              replace hT := (hT.step hV hg_353 hB_353).flip
              refine z_swp ?_
              clear hB_353 hg_353
              refine z_lcmp g dL_areAlike_356 ?_
              refine z_if_ne (tgt := 364) g dL_areAlike_357 (by decide) (fun h => absurd ((lg_cmp_eq _ _).mpr rfl) h) (fun _ => ?_)
              refine z_iconst (v := 1) g dL_areAlike_360 (by decide) ?_
              refine z_goto (tgt := 365) g dL_areAlike_361 (by decide) ?_
              refine z_istore g dL_areAlike_365 (by rw [hN]; decide) ?_
              refine z_iinc1 g dL_areAlike_367 rfl (by rw [hN]; decide) ?_
              refine z_goto (tgt := 321) g dL_areAlike_370 (by decide) ?_
              rw [nI_s]
              exact z_to (z_wid (by omega) (by omega) (ih (u - 1) (by omega) (q + 1) _ (by omega) hT)) ⟨rfl, rfl, rfl, rfl, rfl, rfl, rfl, trivial⟩
        refine z_iload g dL_areAlike_39 rfl ?_
        refine z_if_eq (tgt := 379) g dL_areAlike_41 (by decide) (fun h => absurd h (by decide)) (fun _ => ?_)
        refine z_sipush (v := 10000) g dL_areAlike_44 (by decide) ?_
        refine z_iload_n g dL_areAlike_47 rfl ?_
        refine z_iload g dL_areAlike_48 rfl ?_
        refine z_ishr g dL_areAlike_50 ?_
        refine z_bipush (v := 100) g dL_areAlike_51 (by decide) ?_
        refine z_callS g _ _ cs_L_140 (c_low _ _ _ _ (by decide)) rfl (by rw [hR]; decide) (by rw [hR]; show _ ≤ 3392; omega) (by rw [hR]; show _ ≤ 106000; omega) (Nat.le_of_ble_eq_true rfl) rfl dL_areAlike_53 (fun _ _ h => False.elim h) (fun r_53 M_53 h_53 => ?_)
        obtain ⟨rfl, rfl⟩ := h_53
        refine z_imul g dL_areAlike_56 ?_
        refine z_iload_n g dL_areAlike_57 rfl ?_
        refine z_iload g dL_areAlike_58 rfl ?_
        refine z_iconst (v := 2) g dL_areAlike_60 (by decide) ?_
        refine z_iadd g dL_areAlike_61 ?_
        refine z_ishr g dL_areAlike_62 ?_
        refine z_bipush (v := 100) g dL_areAlike_63 (by decide) ?_
        refine z_callS g _ _ cs_L_140 (c_low _ _ _ _ (by decide)) rfl (by rw [hR]; decide) (by rw [hR]; show _ ≤ 3392; omega) (by rw [hR]; show _ ≤ 106000; omega) (Nat.le_of_ble_eq_true rfl) rfl dL_areAlike_65 (fun _ _ h => False.elim h) (fun r_65 M_65 h_65 => ?_)
        obtain ⟨rfl, rfl⟩ := h_65
        refine z_iadd g dL_areAlike_68 ?_
        refine z_istore g dL_areAlike_69 (by rw [hN]; decide) ?_
        refine z_aload_n g dL_areAlike_71 rfl ?_
        refine z_iconst (v := 4) g dL_areAlike_72 (by decide) ?_
        refine z_iload g dL_areAlike_73 rfl ?_
        refine z_iload g dL_areAlike_75 rfl ?_
        refine z_iconst (v := 5) g dL_areAlike_77 (by decide) ?_
        refine z_irem g dL_areAlike_78 (by decide) ?_
        refine z_iload g dL_areAlike_79 rfl ?_
        refine z_lconst (v := 0) g dL_areAlike_81 (by decide) ?_
        obtain ⟨⟨B_82, hB_82⟩, -⟩ := id hT
        refine z_callSH g _ _ csh_L_does (e_of _ _ hB_82 hV _ _ _ _) rfl (by rw [hR]; decide) (by rw [hR]; show _ ≤ 3392; omega) (by rw [hR]; show _ ≤ 106000; omega) (Nat.le_of_ble_eq_true rfl) rfl dL_areAlike_82 (fun _ _ h => False.elim h) (fun r_82 M_82 h_82 => ?_)
        obtain ⟨rfl, hg_82, hB_82⟩ := h_82
        rw [g_of_S] at hB_82
        replace hT := (hT.step hV hg_82 hB_82).flip
        refine z_swp ?_
        clear hB_82 hg_82
        refine z_aload_n g dL_areAlike_85 rfl ?_
        refine z_iconst (v := 4) g dL_areAlike_86 (by decide) ?_
        refine z_iload g dL_areAlike_87 rfl ?_
        refine z_iload g dL_areAlike_89 rfl ?_
        refine z_iconst (v := 5) g dL_areAlike_91 (by decide) ?_
        refine z_irem g dL_areAlike_92 (by decide) ?_
        refine z_iload g dL_areAlike_93 rfl ?_
        refine z_lconst (v := 0) g dL_areAlike_95 (by decide) ?_
        obtain ⟨⟨B_96, hB_96⟩, -⟩ := id hT
        refine z_callSH g _ _ csh_L_does (e_of _ _ hB_96 hV _ _ _ _) rfl (by rw [hR]; decide) (by rw [hR]; show _ ≤ 3392; omega) (by rw [hR]; show _ ≤ 106000; omega) (Nat.le_of_ble_eq_true rfl) rfl dL_areAlike_96 (fun _ _ h => False.elim h) (fun r_96 M_96 h_96 => ?_)
        obtain ⟨rfl, hg_96, hB_96⟩ := h_96
        rw [g_of_S] at hB_96
        replace hT := (hT.step hV hg_96 hB_96).flip
        refine z_swp ?_
        clear hB_96 hg_96
        refine z_lcmp g dL_areAlike_99 ?_
        refine z_if_ne (tgt := 315) g dL_areAlike_100 (by decide) (fun h => absurd ((lg_cmp_eq _ _).mpr rfl) h) (fun _ => ?_)
        refine z_aload_n g dL_areAlike_103 rfl ?_
        refine z_bipush (v := 8) g dL_areAlike_104 (by decide) ?_
        refine z_iload g dL_areAlike_106 rfl ?_
        refine z_iload g dL_areAlike_108 rfl ?_
        refine z_iconst (v := 2) g dL_areAlike_110 (by decide) ?_
        refine z_irem g dL_areAlike_111 (by decide) ?_
        refine z_iload g dL_areAlike_112 rfl ?_
        refine z_lconst (v := 0) g dL_areAlike_114 (by decide) ?_
        obtain ⟨⟨B_115, hB_115⟩, -⟩ := id hT
        refine z_callSH g _ _ csh_L_does (e_form _ _ hB_115 hV _ _ _ _) rfl (by rw [hR]; decide) (by rw [hR]; show _ ≤ 3392; omega) (by rw [hR]; show _ ≤ 106000; omega) (Nat.le_of_ble_eq_true rfl) rfl dL_areAlike_115 (fun _ _ h => False.elim h) (fun r_115 M_115 h_115 => ?_)
        obtain ⟨rfl, hg_115, hB_115⟩ := h_115
        rw [g_form_S] at hB_115
        replace hT := (hT.step hV hg_115 hB_115).flip
        refine z_swp ?_
        clear hB_115 hg_115
        refine z_aload_n g dL_areAlike_118 rfl ?_
        refine z_bipush (v := 8) g dL_areAlike_119 (by decide) ?_
        refine z_iload g dL_areAlike_121 rfl ?_
        refine z_iload g dL_areAlike_123 rfl ?_
        refine z_iconst (v := 2) g dL_areAlike_125 (by decide) ?_
        refine z_irem g dL_areAlike_126 (by decide) ?_
        refine z_iload g dL_areAlike_127 rfl ?_
        refine z_lconst (v := 0) g dL_areAlike_129 (by decide) ?_
        obtain ⟨⟨B_130, hB_130⟩, -⟩ := id hT
        refine z_callSH g _ _ csh_L_does (e_form _ _ hB_130 hV _ _ _ _) rfl (by rw [hR]; decide) (by rw [hR]; show _ ≤ 3392; omega) (by rw [hR]; show _ ≤ 106000; omega) (Nat.le_of_ble_eq_true rfl) rfl dL_areAlike_130 (fun _ _ h => False.elim h) (fun r_130 M_130 h_130 => ?_)
        obtain ⟨rfl, hg_130, hB_130⟩ := h_130
        rw [g_form_S] at hB_130
        replace hT := (hT.step hV hg_130 hB_130).flip
        refine z_swp ?_
        clear hB_130 hg_130
        refine z_lcmp g dL_areAlike_133 ?_
        refine z_if_ne (tgt := 315) g dL_areAlike_134 (by decide) (fun h => absurd ((lg_cmp_eq _ _).mpr rfl) h) (fun _ => ?_)
        refine z_aload_n g dL_areAlike_137 rfl ?_
        refine z_bipush (v := 17) g dL_areAlike_138 (by decide) ?_
        refine z_iload g dL_areAlike_140 rfl ?_
        refine z_iload_n g dL_areAlike_142 rfl ?_
        refine z_iconst (v := 0) g dL_areAlike_143 (by decide) ?_
        refine z_lconst (v := 0) g dL_areAlike_144 (by decide) ?_
        obtain ⟨⟨B_145, hB_145⟩, -⟩ := id hT
        refine z_callSH g _ _ csh_L_does (e_shown _ _ hB_145 hV _ _ _ _) rfl (by rw [hR]; decide) (by rw [hR]; show _ ≤ 3392; omega) (by rw [hR]; show _ ≤ 106000; omega) (Nat.le_of_ble_eq_true rfl) rfl dL_areAlike_145 (fun _ _ h => False.elim h) (fun r_145 M_145 h_145 => ?_)
        obtain ⟨rfl, hg_145, hB_145⟩ := h_145
        rw [g_shown_S] at hB_145
        replace hT := (hT.step hV hg_145 hB_145).flip
        refine z_swp ?_
        clear hB_145 hg_145
        refine z_aload_n g dL_areAlike_148 rfl ?_
        refine z_bipush (v := 17) g dL_areAlike_149 (by decide) ?_
        refine z_iload g dL_areAlike_151 rfl ?_
        refine z_iload_n g dL_areAlike_153 rfl ?_
        refine z_iconst (v := 0) g dL_areAlike_154 (by decide) ?_
        refine z_lconst (v := 0) g dL_areAlike_155 (by decide) ?_
        obtain ⟨⟨B_156, hB_156⟩, -⟩ := id hT
        refine z_callSH g _ _ csh_L_does (e_shown _ _ hB_156 hV _ _ _ _) rfl (by rw [hR]; decide) (by rw [hR]; show _ ≤ 3392; omega) (by rw [hR]; show _ ≤ 106000; omega) (Nat.le_of_ble_eq_true rfl) rfl dL_areAlike_156 (fun _ _ h => False.elim h) (fun r_156 M_156 h_156 => ?_)
        obtain ⟨rfl, hg_156, hB_156⟩ := h_156
        rw [g_shown_S] at hB_156
        replace hT := (hT.step hV hg_156 hB_156).flip
        refine z_swp ?_
        clear hB_156 hg_156
        refine z_lcmp g dL_areAlike_159 ?_
        refine z_if_ne (tgt := 315) g dL_areAlike_160 (by decide) (fun h => absurd ((lg_cmp_eq _ _).mpr rfl) h) (fun _ => ?_)
        refine z_aload_n g dL_areAlike_163 rfl ?_
        refine z_bipush (v := 18) g dL_areAlike_164 (by decide) ?_
        refine z_iload g dL_areAlike_166 rfl ?_
        refine z_iconst (v := 1) g dL_areAlike_168 (by decide) ?_
        refine z_iconst (v := 0) g dL_areAlike_169 (by decide) ?_
        refine z_lconst (v := 0) g dL_areAlike_170 (by decide) ?_
        obtain ⟨⟨B_171, hB_171⟩, -⟩ := id hT
        refine z_callSH g _ _ csh_L_does (e_display _ _ hB_171 hV _ _ _ _) rfl (by rw [hR]; decide) (by rw [hR]; show _ ≤ 3392; omega) (by rw [hR]; show _ ≤ 106000; omega) (Nat.le_of_ble_eq_true rfl) rfl dL_areAlike_171 (fun _ _ h => False.elim h) (fun r_171 M_171 h_171 => ?_)
        obtain ⟨rfl, hg_171, hB_171⟩ := h_171
        rw [g_display_S] at hB_171
        replace hT := (hT.step hV hg_171 hB_171).flip
        refine z_swp ?_
        clear hB_171 hg_171
        refine z_aload_n g dL_areAlike_174 rfl ?_
        refine z_bipush (v := 18) g dL_areAlike_175 (by decide) ?_
        refine z_iload g dL_areAlike_177 rfl ?_
        refine z_iconst (v := 1) g dL_areAlike_179 (by decide) ?_
        refine z_iconst (v := 0) g dL_areAlike_180 (by decide) ?_
        refine z_lconst (v := 0) g dL_areAlike_181 (by decide) ?_
        obtain ⟨⟨B_182, hB_182⟩, -⟩ := id hT
        refine z_callSH g _ _ csh_L_does (e_display _ _ hB_182 hV _ _ _ _) rfl (by rw [hR]; decide) (by rw [hR]; show _ ≤ 3392; omega) (by rw [hR]; show _ ≤ 106000; omega) (Nat.le_of_ble_eq_true rfl) rfl dL_areAlike_182 (fun _ _ h => False.elim h) (fun r_182 M_182 h_182 => ?_)
        obtain ⟨rfl, hg_182, hB_182⟩ := h_182
        rw [g_display_S] at hB_182
        replace hT := (hT.step hV hg_182 hB_182).flip
        refine z_swp ?_
        clear hB_182 hg_182
        refine z_lcmp g dL_areAlike_185 ?_
        refine z_if_ne (tgt := 315) g dL_areAlike_186 (by decide) (fun h => absurd ((lg_cmp_eq _ _).mpr rfl) h) (fun _ => ?_)
        refine z_aload_n g dL_areAlike_189 rfl ?_
        refine z_bipush (v := 22) g dL_areAlike_190 (by decide) ?_
        refine z_iload g dL_areAlike_192 rfl ?_
        refine z_iconst (v := 0) g dL_areAlike_194 (by decide) ?_
        refine z_iconst (v := 0) g dL_areAlike_195 (by decide) ?_
        refine z_lconst (v := 0) g dL_areAlike_196 (by decide) ?_
        obtain ⟨⟨B_197, hB_197⟩, -⟩ := id hT
        refine z_callSH g _ _ csh_L_does (e_loss _ _ hB_197 hV _ _ _ _) rfl (by rw [hR]; decide) (by rw [hR]; show _ ≤ 3392; omega) (by rw [hR]; show _ ≤ 106000; omega) (Nat.le_of_ble_eq_true rfl) rfl dL_areAlike_197 (fun _ _ h => False.elim h) (fun r_197 M_197 h_197 => ?_)
        obtain ⟨rfl, hg_197, hB_197⟩ := h_197
        rw [g_loss_S] at hB_197
        replace hT := (hT.step hV hg_197 hB_197).flip
        refine z_swp ?_
        clear hB_197 hg_197
        refine z_aload_n g dL_areAlike_200 rfl ?_
        refine z_bipush (v := 22) g dL_areAlike_201 (by decide) ?_
        refine z_iload g dL_areAlike_203 rfl ?_
        refine z_iconst (v := 0) g dL_areAlike_205 (by decide) ?_
        refine z_iconst (v := 0) g dL_areAlike_206 (by decide) ?_
        refine z_lconst (v := 0) g dL_areAlike_207 (by decide) ?_
        obtain ⟨⟨B_208, hB_208⟩, -⟩ := id hT
        refine z_callSH g _ _ csh_L_does (e_loss _ _ hB_208 hV _ _ _ _) rfl (by rw [hR]; decide) (by rw [hR]; show _ ≤ 3392; omega) (by rw [hR]; show _ ≤ 106000; omega) (Nat.le_of_ble_eq_true rfl) rfl dL_areAlike_208 (fun _ _ h => False.elim h) (fun r_208 M_208 h_208 => ?_)
        obtain ⟨rfl, hg_208, hB_208⟩ := h_208
        rw [g_loss_S] at hB_208
        replace hT := (hT.step hV hg_208 hB_208).flip
        refine z_swp ?_
        clear hB_208 hg_208
        refine z_lcmp g dL_areAlike_211 ?_
        refine z_if_ne (tgt := 315) g dL_areAlike_212 (by decide) (fun h => absurd ((lg_cmp_eq _ _).mpr rfl) h) (fun _ => ?_)
        refine z_aload_n g dL_areAlike_215 rfl ?_
        refine z_bipush (v := 24) g dL_areAlike_216 (by decide) ?_
        refine z_iload g dL_areAlike_218 rfl ?_
        refine z_iconst (v := 4) g dL_areAlike_220 (by decide) ?_
        refine z_irem g dL_areAlike_221 (by decide) ?_
        refine z_iload g dL_areAlike_222 rfl ?_
        refine z_iconst (v := 0) g dL_areAlike_224 (by decide) ?_
        refine z_lconst (v := 0) g dL_areAlike_225 (by decide) ?_
        obtain ⟨⟨B_226, hB_226⟩, -⟩ := id hT
        refine z_callSH g _ _ csh_L_does (e_cost _ _ hB_226 hV _ _ _ _) rfl (by rw [hR]; decide) (by rw [hR]; show _ ≤ 3392; omega) (by rw [hR]; show _ ≤ 106000; omega) (Nat.le_of_ble_eq_true rfl) rfl dL_areAlike_226 (fun _ _ h => False.elim h) (fun r_226 M_226 h_226 => ?_)
        obtain ⟨rfl, hg_226, hB_226⟩ := h_226
        rw [g_cost_S] at hB_226
        replace hT := (hT.step hV hg_226 hB_226).flip
        refine z_swp ?_
        clear hB_226 hg_226
        refine z_aload_n g dL_areAlike_229 rfl ?_
        refine z_bipush (v := 24) g dL_areAlike_230 (by decide) ?_
        refine z_iload g dL_areAlike_232 rfl ?_
        refine z_iconst (v := 4) g dL_areAlike_234 (by decide) ?_
        refine z_irem g dL_areAlike_235 (by decide) ?_
        refine z_iload g dL_areAlike_236 rfl ?_
        refine z_iconst (v := 0) g dL_areAlike_238 (by decide) ?_
        refine z_lconst (v := 0) g dL_areAlike_239 (by decide) ?_
        obtain ⟨⟨B_240, hB_240⟩, -⟩ := id hT
        refine z_callSH g _ _ csh_L_does (e_cost _ _ hB_240 hV _ _ _ _) rfl (by rw [hR]; decide) (by rw [hR]; show _ ≤ 3392; omega) (by rw [hR]; show _ ≤ 106000; omega) (Nat.le_of_ble_eq_true rfl) rfl dL_areAlike_240 (fun _ _ h => False.elim h) (fun r_240 M_240 h_240 => ?_)
        obtain ⟨rfl, hg_240, hB_240⟩ := h_240
        rw [g_cost_S] at hB_240
        replace hT := (hT.step hV hg_240 hB_240).flip
        refine z_swp ?_
        clear hB_240 hg_240
        refine z_lcmp g dL_areAlike_243 ?_
        refine z_if_ne (tgt := 315) g dL_areAlike_244 (by decide) (fun h => absurd ((lg_cmp_eq _ _).mpr rfl) h) (fun _ => ?_)
        refine z_aload_n g dL_areAlike_247 rfl ?_
        refine z_bipush (v := 27) g dL_areAlike_248 (by decide) ?_
        refine z_iload g dL_areAlike_250 rfl ?_
        refine z_iconst (v := 4) g dL_areAlike_252 (by decide) ?_
        refine z_irem g dL_areAlike_253 (by decide) ?_
        refine z_iload g dL_areAlike_254 rfl ?_
        refine z_iload g dL_areAlike_256 rfl ?_
        refine z_iconst (v := 2) g dL_areAlike_258 (by decide) ?_
        refine z_irem g dL_areAlike_259 (by decide) ?_
        refine z_lconst (v := 0) g dL_areAlike_260 (by decide) ?_
        obtain ⟨⟨B_261, hB_261⟩, -⟩ := id hT
        refine z_callSH g _ _ csh_L_does (e_copy _ _ hB_261 hV _ _ _ _) rfl (by rw [hR]; decide) (by rw [hR]; show _ ≤ 3392; omega) (by rw [hR]; show _ ≤ 106000; omega) (Nat.le_of_ble_eq_true rfl) rfl dL_areAlike_261 (fun _ _ h => False.elim h) (fun r_261 M_261 h_261 => ?_)
        obtain ⟨rfl, hg_261, hB_261⟩ := h_261
        rw [g_copy_S] at hB_261
        replace hT := (hT.step hV hg_261 hB_261).flip
        refine z_swp ?_
        clear hB_261 hg_261
        refine z_aload_n g dL_areAlike_264 rfl ?_
        refine z_bipush (v := 27) g dL_areAlike_265 (by decide) ?_
        refine z_iload g dL_areAlike_267 rfl ?_
        refine z_iconst (v := 4) g dL_areAlike_269 (by decide) ?_
        refine z_irem g dL_areAlike_270 (by decide) ?_
        refine z_iload g dL_areAlike_271 rfl ?_
        refine z_iload g dL_areAlike_273 rfl ?_
        refine z_iconst (v := 2) g dL_areAlike_275 (by decide) ?_
        refine z_irem g dL_areAlike_276 (by decide) ?_
        refine z_lconst (v := 0) g dL_areAlike_277 (by decide) ?_
        obtain ⟨⟨B_278, hB_278⟩, -⟩ := id hT
        refine z_callSH g _ _ csh_L_does (e_copy _ _ hB_278 hV _ _ _ _) rfl (by rw [hR]; decide) (by rw [hR]; show _ ≤ 3392; omega) (by rw [hR]; show _ ≤ 106000; omega) (Nat.le_of_ble_eq_true rfl) rfl dL_areAlike_278 (fun _ _ h => False.elim h) (fun r_278 M_278 h_278 => ?_)
        obtain ⟨rfl, hg_278, hB_278⟩ := h_278
        rw [g_copy_S] at hB_278
        replace hT := (hT.step hV hg_278 hB_278).flip
        refine z_swp ?_
        clear hB_278 hg_278
        refine z_lcmp g dL_areAlike_281 ?_
        refine z_if_ne (tgt := 315) g dL_areAlike_282 (by decide) (fun h => absurd ((lg_cmp_eq _ _).mpr rfl) h) (fun _ => ?_)
        refine z_aload_n g dL_areAlike_285 rfl ?_
        refine z_bipush (v := 30) g dL_areAlike_286 (by decide) ?_
        refine z_iload g dL_areAlike_288 rfl ?_
        refine z_iconst (v := 0) g dL_areAlike_290 (by decide) ?_
        refine z_iconst (v := 0) g dL_areAlike_291 (by decide) ?_
        refine z_lconst (v := 0) g dL_areAlike_292 (by decide) ?_
        obtain ⟨⟨B_293, hB_293⟩, -⟩ := id hT
        refine z_callSH g _ _ csh_L_does (e_sign _ _ hB_293 hV _ _ _ _) rfl (by rw [hR]; decide) (by rw [hR]; show _ ≤ 3392; omega) (by rw [hR]; show _ ≤ 106000; omega) (Nat.le_of_ble_eq_true rfl) rfl dL_areAlike_293 (fun _ _ h => False.elim h) (fun r_293 M_293 h_293 => ?_)
        obtain ⟨rfl, hg_293, hB_293⟩ := h_293
        rw [g_sign_S] at hB_293
        replace hT := (hT.step hV hg_293 hB_293).flip
        refine z_swp ?_
        clear hB_293 hg_293
        refine z_aload_n g dL_areAlike_296 rfl ?_
        refine z_bipush (v := 30) g dL_areAlike_297 (by decide) ?_
        refine z_iload g dL_areAlike_299 rfl ?_
        refine z_iconst (v := 0) g dL_areAlike_301 (by decide) ?_
        refine z_iconst (v := 0) g dL_areAlike_302 (by decide) ?_
        refine z_lconst (v := 0) g dL_areAlike_303 (by decide) ?_
        obtain ⟨⟨B_304, hB_304⟩, -⟩ := id hT
        refine z_callSH g _ _ csh_L_does (e_sign _ _ hB_304 hV _ _ _ _) rfl (by rw [hR]; decide) (by rw [hR]; show _ ≤ 3392; omega) (by rw [hR]; show _ ≤ 106000; omega) (Nat.le_of_ble_eq_true rfl) rfl dL_areAlike_304 (fun _ _ h => False.elim h) (fun r_304 M_304 h_304 => ?_)
        obtain ⟨rfl, hg_304, hB_304⟩ := h_304
        rw [g_sign_S] at hB_304
        replace hT := (hT.step hV hg_304 hB_304).flip
        refine z_swp ?_
        clear hB_304 hg_304
        refine z_lcmp g dL_areAlike_307 ?_
        refine z_if_ne (tgt := 315) g dL_areAlike_308 (by decide) (fun h => absurd ((lg_cmp_eq _ _).mpr rfl) h) (fun _ => ?_)
        refine z_iconst (v := 1) g dL_areAlike_311 (by decide) ?_
        refine z_goto (tgt := 316) g dL_areAlike_312 (by decide) ?_
        refine z_istore g dL_areAlike_316 (by rw [hN]; decide) ?_
        refine z_iconst (v := 0) g dL_areAlike_318 (by decide) ?_
        refine z_istore g dL_areAlike_319 (by rw [hN]; decide) ?_
        exact z_to (z_wid (by omega) (by omega) (inner 5 0 _ rfl hT)) ⟨rfl, rfl, rfl, rfl, rfl, rfl, rfl, trivial⟩
  refine z_aload_n g dL_areAlike_0 rfl ?_
  obtain ⟨⟨B_1, hB_1⟩, -⟩ := id hT
  refine z_callV g _ _ cv_L_153 (k_assign _ _ hB_1 hV) hT.k (by decide) rfl (by rw [hR]; decide) (by rw [hR]; show _ ≤ 3392; omega) (by rw [hR]; show _ ≤ 106000; omega) (Nat.le_of_ble_eq_true rfl) rfl dL_areAlike_1 (fun _ _ h => False.elim h) (fun r_1 M_1 h_1 => ?_)
  obtain ⟨rfl, hg_1, hB_1⟩ := h_1
  replace hT := (hT.step hV hg_1 (un0 hB_1)).flip
  refine z_swp ?_
  clear hB_1 hg_1
  refine z_aload_n g dL_areAlike_4 rfl ?_
  obtain ⟨⟨B_5, hB_5⟩, -⟩ := id hT
  refine z_callV g _ _ cv_L_153 (k_assign _ _ hB_5 hV) hT.k (by decide) rfl (by rw [hR]; decide) (by rw [hR]; show _ ≤ 3392; omega) (by rw [hR]; show _ ≤ 106000; omega) (Nat.le_of_ble_eq_true rfl) rfl dL_areAlike_5 (fun _ _ h => False.elim h) (fun r_5 M_5 h_5 => ?_)
  obtain ⟨rfl, hg_5, hB_5⟩ := h_5
  replace hT := (hT.step hV hg_5 (un0 hB_5)).flip
  refine z_swp ?_
  clear hB_5 hg_5
  refine z_icmp_ne (tgt := 26) g dL_areAlike_8 (by decide) (fun h => absurd rfl h) (fun _ => ?_)
  refine z_aload_n g dL_areAlike_11 rfl ?_
  obtain ⟨⟨B_12, hB_12⟩, -⟩ := id hT
  refine z_callV g _ _ cv_L_157 (k_ways _ _ hB_12 hV) hT.k (by decide) rfl (by rw [hR]; decide) (by rw [hR]; show _ ≤ 3392; omega) (by rw [hR]; show _ ≤ 106000; omega) (Nat.le_of_ble_eq_true rfl) rfl dL_areAlike_12 (fun _ _ h => False.elim h) (fun r_12 M_12 h_12 => ?_)
  obtain ⟨rfl, hg_12, hB_12⟩ := h_12
  replace hT := (hT.step hV hg_12 (un0 hB_12)).flip
  refine z_swp ?_
  clear hB_12 hg_12
  refine z_aload_n g dL_areAlike_15 rfl ?_
  obtain ⟨⟨B_16, hB_16⟩, -⟩ := id hT
  refine z_callV g _ _ cv_L_157 (k_ways _ _ hB_16 hV) hT.k (by decide) rfl (by rw [hR]; decide) (by rw [hR]; show _ ≤ 3392; omega) (by rw [hR]; show _ ≤ 106000; omega) (Nat.le_of_ble_eq_true rfl) rfl dL_areAlike_16 (fun _ _ h => False.elim h) (fun r_16 M_16 h_16 => ?_)
  obtain ⟨rfl, hg_16, hB_16⟩ := h_16
  replace hT := (hT.step hV hg_16 (un0 hB_16)).flip
  refine z_swp ?_
  clear hB_16 hg_16
  refine z_icmp_ne (tgt := 26) g dL_areAlike_19 (by decide) (fun h => absurd rfl h) (fun _ => ?_)
  refine z_iconst (v := 1) g dL_areAlike_22 (by decide) ?_
  refine z_goto (tgt := 27) g dL_areAlike_23 (by decide) ?_
  refine z_istore g dL_areAlike_27 (by rw [hN]; decide) ?_
  refine z_iconst (v := 0) g dL_areAlike_29 (by decide) ?_
  refine z_istore g dL_areAlike_30 (by rw [hN]; decide) ?_
  exact z_to (z_wid (by omega) (by omega) (outer 8 0 _ rfl hT)) ⟨rfl, rfl, rfl, rfl, rfl, rfl, trivial⟩
