/-! ===== the model: changes (printed by gen/mod_d14.py) ===== -/
theorem nI_p0 (a : Nat) : nI a + 0 = nI a := nI_add a 0
set_option maxHeartbeats 4000000 in
set_option maxRecDepth 100000 in
theorem n_chs (E : Ev) {A : Nat → Nat} {m : Nat} {S : Ms} (M : Mm) (hM : RM A m S M) (u r : List Nat) (hu : LW 12 u) (hr : LW 12 r) (hLt : Lt A m M u) : CT E yX11_changes cX11_changes 7 (some .int) 1 0 0 [.ref m, .long (lN (lv r))] M ((fun r' M' => r' = some (.int (nI (lev u.reverse r))) ∧ SE A m M M' ∧ Lt A m M' u)) noX := by
  refine CT.of rfl (Nat.le_of_ble_eq_true rfl) (fun X g hrt hno hE hN hR hI => ?_)
  subst hE
  have hu12 := hu.1
  have hr12 := hr.1
  have tail : ∀ (M1 : Mm) (se : SE A m M M1) (hL : Lt A m M1 u) (hf : fI M1 m 64 = nI r.length) (hO : ∀ j z, r[j]? = some z → fI M1 (A 63) j = nI z) (hrow : ∀ j, j ≤ r.length → fI M1 (A 65) j = nI (lvD u r u.length j)), Z X M1 0 0 234 [(0, .ref m)] [] := by
    intro M1 se hL hf hO hrow
    have hM1 := hM.SE se
    refine z_aload_n g dX11_changes_234 rfl ?_
    refine z_getR g fl_X11_174 hM1.k0 (by decide) rfl (hM1.ref (k := 65) (by decide)) dX11_changes_235 ?_
    refine z_aload_n g dX11_changes_238 rfl ?_
    refine z_getI g fl_X11_308 hM1.k0 (by decide) rfl dX11_changes_239 ?_
    rw [hf]
    refine z_ialdk g (hM1.kA1 (k := 65) (by decide)) (by decide) (vp_in_nI (by rw [hM1.lnI (k := 65) (by decide)]; show _ < 13; omega) (by rw [hM1.lnI (k := 65) (by decide)]; decide)) dX11_changes_242 ?_
    rw [nI_clamp (by omega)]
    rw [hrow _ (Nat.le_refl _), lvD_all]
    exact z_iret g hrt rfl (by decide) (by decide) dX11_changes_243 ⟨rfl, se, hL⟩
  have outer : ∀ (k n : Nat) (M1 : Mm) (hk : k + n = u.length) (se : SE A m M M1) (hL : Lt A m M1 u) (hf : fI M1 m 64 = nI r.length) (hO : ∀ j z, r[j]? = some z → fI M1 (A 63) j = nI z) (hrow : ∀ j, j ≤ r.length → fI M1 (A 65) j = nI (lvD u r n j)), Z X M1 0 0 72 [(0, .ref m), (3, .int (nI (n + 1)))] [] := by
    intro k
    induction k using Nat.strongRecOn with
    | _ k ihn =>
      intro n M1 hk se hL hf hO hrow
      have hM1 := hM.SE se
      refine z_iload_n g dX11_changes_72 rfl ?_
      refine z_aload_n g dX11_changes_73 rfl ?_
      refine z_getI g fl_X11_195 hM1.k0 (by decide) rfl dX11_changes_74 ?_
      rw [hL.1]
      refine z_icmp_gt (tgt := 234) g dX11_changes_77 (by decide) (fun c_77 => ?_) (fun c_77 => ?_)
      · rw [nI_ltI (by omega) (by omega)] at c_77
        rw [show n = u.length by omega] at hrow
        exact z_to (tail M1 se hL hf hO hrow) ⟨rfl, trivial⟩
      have h77 : n < u.length := by rw [nI_ltI (by omega) (by omega)] at c_77; omega
      obtain ⟨x, hx⟩ : ∃ x, u[n]? = some x := ⟨u[n], List.getElem?_eq_getElem h77⟩
      have hx2 := hu.2 x (List.mem_of_getElem? hx)
      have next : ∀ (M1 : Mm) (se : SE A m M M1) (hL : Lt A m M1 u) (hf : fI M1 m 64 = nI r.length) (hO : ∀ j z, r[j]? = some z → fI M1 (A 63) j = nI z) (hrow : ∀ j, j ≤ r.length → fI M1 (A 65) j = nI (lvD u r (n + 1) j)), Z X M1 0 0 228 [(0, .ref m), (3, .int (nI (n + 1)))] [] := by
        intro M1 se hL hf hO hrow
        refine z_iinc1 g dX11_changes_228 rfl (by rw [hN]; decide) ?_
        refine z_goto (tgt := 72) g dX11_changes_231 (by decide) ?_
        rw [show nI (n + 1) + 1 = nI (n + 1 + 1) from nI_s (n + 1)]
        exact z_to (ihn (k - 1) (by omega) (n + 1) M1 (by omega) se hL hf hO hrow) ⟨rfl, rfl, trivial⟩
      have inner : ∀ (k i : Nat) (M1 : Mm) (hk : k + i = r.length) (se : SE A m M M1) (hL : Lt A m M1 u) (hf : fI M1 m 64 = nI r.length) (hO : ∀ j z, r[j]? = some z → fI M1 (A 63) j = nI z) (hlo : ∀ j, j ≤ i → fI M1 (A 65) j = nI (lvD u r (n + 1) j)) (hhi : ∀ j, i < j → j ≤ r.length → fI M1 (A 65) j = nI (lvD u r n j)), Z X M1 0 0 98 [(0, .ref m), (3, .int (nI (n + 1))), (4, .int (nI (lvD u r n i))), (5, .int (nI (i + 1)))] [] := by
        intro k
        induction k using Nat.strongRecOn with
        | _ k ih =>
          intro i M1 hk se hL hf hO hlo hhi
          have hM1 := hM.SE se
          refine z_iload g dX11_changes_98 rfl ?_
          refine z_aload_n g dX11_changes_100 rfl ?_
          refine z_getI g fl_X11_308 hM1.k0 (by decide) rfl dX11_changes_101 ?_
          rw [hf]
          refine z_icmp_gt (tgt := 228) g dX11_changes_104 (by decide) (fun c_104 => ?_) (fun c_104 => ?_)
          · rw [nI_ltI (by omega) (by omega)] at c_104
            exact z_to (next M1 se hL hf hO (fun j hj => hlo j (by omega))) ⟨rfl, rfl, trivial⟩
          have h104 : i + 1 ≤ r.length := by rw [nI_ltI (by omega) (by omega)] at c_104; omega
          obtain ⟨y, hy⟩ : ∃ y, r[r.length - (i + 1)]? = some y := ⟨r[r.length - (i + 1)], List.getElem?_eq_getElem (by omega)⟩
          have hy2 := hr.2 y (List.mem_of_getElem? hy)
          have hD := lvD_s hx h104 hy
          have b1 := lvD_le u r (n := n) (i := i)
          have b2 := lvD_le u r (n := n) (i := i + 1)
          have b3 := lvD_le u r (n := n + 1) (i := i)
          refine z_iload g dX11_changes_107 rfl ?_
          refine z_aload_n g dX11_changes_109 rfl ?_
          refine z_getR g fl_X11_165 hM1.k0 (by decide) rfl (hM1.ref (k := 60) (by decide)) dX11_changes_110 ?_
          refine z_iload_n g dX11_changes_113 rfl ?_
          refine z_iconst (v := 1) g dX11_changes_114 (by decide) ?_
          refine z_isub g dX11_changes_115 ?_
          rw [show nI (n + 1) - 1 = nI n from nI_pred n]
          refine z_ialdk g (hM1.kA1 (k := 60) (by decide)) (by decide) (vp_in_nI (by rw [hM1.lnI (k := 60) (by decide)]; show _ < 24; omega) (by rw [hM1.lnI (k := 60) (by decide)]; decide)) dX11_changes_116 ?_
          rw [nI_clamp (by omega)]
          rw [hL.2 n x hx]
          refine z_aload_n g dX11_changes_117 rfl ?_
          refine z_getR g fl_X11_171 hM1.k0 (by decide) rfl (hM1.ref (k := 63) (by decide)) dX11_changes_118 ?_
          refine z_aload_n g dX11_changes_121 rfl ?_
          refine z_getI g fl_X11_308 hM1.k0 (by decide) rfl dX11_changes_122 ?_
          rw [hf]
          refine z_iload g dX11_changes_125 rfl ?_
          refine z_isub g dX11_changes_127 ?_
          rw [pk_sub h104]
          refine z_ialdk g (hM1.kA1 (k := 63) (by decide)) (by decide) (vp_in_nI (by rw [hM1.lnI (k := 63) (by decide)]; show _ < 12; omega) (by rw [hM1.lnI (k := 63) (by decide)]; decide)) dX11_changes_128 ?_
          rw [nI_clamp (by omega)]
          rw [hO _ y hy]
          refine z_icmp_ne (tgt := 136) g dX11_changes_129 (by decide) (fun c_129 => ?_) (fun c_129 => ?_)
          · refine z_iconst (v := 1) g dX11_changes_136 (by decide) ?_
            refine z_iadd g dX11_changes_137 ?_
            refine z_istore g dX11_changes_138 (by rw [hN]; decide) ?_
            refine z_aload_n g dX11_changes_140 rfl ?_
            refine z_getR g fl_X11_174 hM1.k0 (by decide) rfl (hM1.ref (k := 65) (by decide)) dX11_changes_141 ?_
            refine z_iload g dX11_changes_144 rfl ?_
            refine z_ialdk g (hM1.kA1 (k := 65) (by decide)) (by decide) (vp_in_nI (by rw [hM1.lnI (k := 65) (by decide)]; show _ < 13; omega) (by rw [hM1.lnI (k := 65) (by decide)]; decide)) dX11_changes_146 ?_
            rw [nI_clamp (by omega)]
            rw [hhi (i + 1) (by omega) h104]
            refine z_iconst (v := 1) g dX11_changes_147 (by decide) ?_
            refine z_iadd g dX11_changes_148 ?_
            try simp only [nI_s, nI_p0]
            refine z_iload g dX11_changes_149 rfl ?_
            refine z_icmp_ge (tgt := 166) g dX11_changes_151 (by decide) (fun c_151 => ?_) (fun c_151 => ?_)
            · refine z_iload g dX11_changes_166 rfl ?_
              refine z_istore g dX11_changes_168 (by rw [hN]; decide) ?_
              refine z_aload_n g dX11_changes_170 rfl ?_
              refine z_getR g fl_X11_174 hM1.k0 (by decide) rfl (hM1.ref (k := 65) (by decide)) dX11_changes_171 ?_
              refine z_iload g dX11_changes_174 rfl ?_
              refine z_iconst (v := 1) g dX11_changes_176 (by decide) ?_
              refine z_isub g dX11_changes_177 ?_
              rw [show nI (i + 1) - 1 = nI i from nI_pred i]
              refine z_ialdk g (hM1.kA1 (k := 65) (by decide)) (by decide) (vp_in_nI (by rw [hM1.lnI (k := 65) (by decide)]; show _ < 13; omega) (by rw [hM1.lnI (k := 65) (by decide)]; decide)) dX11_changes_178 ?_
              rw [nI_clamp (by omega)]
              rw [hlo i (Nat.le_refl _)]
              refine z_iconst (v := 1) g dX11_changes_179 (by decide) ?_
              refine z_iadd g dX11_changes_180 ?_
              try simp only [nI_s, nI_p0]
              refine z_iload g dX11_changes_181 rfl ?_
              refine z_icmp_ge (tgt := 200) g dX11_changes_183 (by decide) (fun c_183 => ?_) (fun c_183 => ?_)
              · refine z_iload g dX11_changes_200 rfl ?_
                refine z_istore g dX11_changes_202 (by rw [hN]; decide) ?_
                refine z_aload_n g dX11_changes_204 rfl ?_
                refine z_getR g fl_X11_174 hM1.k0 (by decide) rfl (hM1.ref (k := 65) (by decide)) dX11_changes_205 ?_
                refine z_iload g dX11_changes_208 rfl ?_
                refine z_ialdk g (hM1.kA1 (k := 65) (by decide)) (by decide) (vp_in_nI (by rw [hM1.lnI (k := 65) (by decide)]; show _ < 13; omega) (by rw [hM1.lnI (k := 65) (by decide)]; decide)) dX11_changes_210 ?_
                rw [nI_clamp (by omega)]
                rw [hhi (i + 1) (by omega) h104]
                refine z_istore g dX11_changes_211 (by rw [hN]; decide) ?_
                refine z_aload_n g dX11_changes_213 rfl ?_
                refine z_getR g fl_X11_174 hM1.k0 (by decide) rfl (hM1.ref (k := 65) (by decide)) dX11_changes_214 ?_
                refine z_iload g dX11_changes_217 rfl ?_
                refine z_iload g dX11_changes_219 rfl ?_
                refine z_iastk g (hM1.kA1 (k := 65) (by decide)) (by decide) (vp_in_nI (by rw [hM1.lnI (k := 65) (by decide)]; show _ < 13; omega) (by rw [hM1.lnI (k := 65) (by decide)]; decide)) dX11_changes_221 ?_
                rw [nI_clamp (by omega)]
                refine z_iinc1 g dX11_changes_222 rfl (by rw [hN]; decide) ?_
                refine z_goto (tgt := 98) g dX11_changes_225 (by decide) ?_
                first
                  | (have e : (if x = y then 0 else 1 : Nat) = 1 := if_neg (fun z => c_129 (by rw [z]))
                     rw [e] at hD)
                  | (have e : (if x = y then 0 else 1 : Nat) = 0 := if_pos ((nI_eq (by omega) (by omega)).mp c_129)
                     rw [e] at hD)
                try simp only [nI_s, nI_p0] at c_151
                rw [nI_leI (by omega) (by omega)] at c_151
                try simp only [nI_s, nI_p0] at c_183
                rw [nI_leI (by omega) (by omega)] at c_183
                try simp only [nI_s, nI_p0]
                have hval : ∀ (v : Nat), v = lvD u r (n + 1) (i + 1) → nI v = nI (lvD u r (n + 1) (i + 1)) := fun v h => by rw [h]
                refine z_to (ih (k - 1) (by omega) (i + 1) _ (by omega) (se.tr (SE.sI60 (Or.inr (Or.inr (Or.inr rfl))))) (Lt_j hM1 65 (by decide) (by decide) hL) (by rw [fI_sI, if_neg (fun z => hM1.nem (k := 65) (by decide) z.1)]; exact hf) (fun j z hz => by rw [fI_sI, if_neg (fun q => hM1.ne (k := 63) (j := 65) (by decide) (by decide) (by decide) q.1)]; exact hO j z hz) (fun j hj => ?_) (fun j h1 h2 => ?_)) ⟨rfl, rfl, rfl, rfl, trivial⟩
                · rw [fI_sI]
                  by_cases hj2 : j = i + 1
                  · rw [if_pos ⟨rfl, hj2⟩, hj2]
                    exact hval _ (by omega)
                  · rw [if_neg (fun z => hj2 z.2)]; exact hlo j (by omega)
                · rw [fI_sI, if_neg (fun z => by omega)]; exact hhi j (by omega) h2
              · refine z_aload_n g dX11_changes_186 rfl ?_
                refine z_getR g fl_X11_174 hM1.k0 (by decide) rfl (hM1.ref (k := 65) (by decide)) dX11_changes_187 ?_
                refine z_iload g dX11_changes_190 rfl ?_
                refine z_iconst (v := 1) g dX11_changes_192 (by decide) ?_
                refine z_isub g dX11_changes_193 ?_
                rw [show nI (i + 1) - 1 = nI i from nI_pred i]
                refine z_ialdk g (hM1.kA1 (k := 65) (by decide)) (by decide) (vp_in_nI (by rw [hM1.lnI (k := 65) (by decide)]; show _ < 13; omega) (by rw [hM1.lnI (k := 65) (by decide)]; decide)) dX11_changes_194 ?_
                rw [nI_clamp (by omega)]
                rw [hlo i (Nat.le_refl _)]
                refine z_iconst (v := 1) g dX11_changes_195 (by decide) ?_
                refine z_iadd g dX11_changes_196 ?_
                try simp only [nI_s, nI_p0]
                refine z_goto (tgt := 202) g dX11_changes_197 (by decide) ?_
                refine z_istore g dX11_changes_202 (by rw [hN]; decide) ?_
                refine z_aload_n g dX11_changes_204 rfl ?_
                refine z_getR g fl_X11_174 hM1.k0 (by decide) rfl (hM1.ref (k := 65) (by decide)) dX11_changes_205 ?_
                refine z_iload g dX11_changes_208 rfl ?_
                refine z_ialdk g (hM1.kA1 (k := 65) (by decide)) (by decide) (vp_in_nI (by rw [hM1.lnI (k := 65) (by decide)]; show _ < 13; omega) (by rw [hM1.lnI (k := 65) (by decide)]; decide)) dX11_changes_210 ?_
                rw [nI_clamp (by omega)]
                rw [hhi (i + 1) (by omega) h104]
                refine z_istore g dX11_changes_211 (by rw [hN]; decide) ?_
                refine z_aload_n g dX11_changes_213 rfl ?_
                refine z_getR g fl_X11_174 hM1.k0 (by decide) rfl (hM1.ref (k := 65) (by decide)) dX11_changes_214 ?_
                refine z_iload g dX11_changes_217 rfl ?_
                refine z_iload g dX11_changes_219 rfl ?_
                refine z_iastk g (hM1.kA1 (k := 65) (by decide)) (by decide) (vp_in_nI (by rw [hM1.lnI (k := 65) (by decide)]; show _ < 13; omega) (by rw [hM1.lnI (k := 65) (by decide)]; decide)) dX11_changes_221 ?_
                rw [nI_clamp (by omega)]
                refine z_iinc1 g dX11_changes_222 rfl (by rw [hN]; decide) ?_
                refine z_goto (tgt := 98) g dX11_changes_225 (by decide) ?_
                first
                  | (have e : (if x = y then 0 else 1 : Nat) = 1 := if_neg (fun z => c_129 (by rw [z]))
                     rw [e] at hD)
                  | (have e : (if x = y then 0 else 1 : Nat) = 0 := if_pos ((nI_eq (by omega) (by omega)).mp c_129)
                     rw [e] at hD)
                try simp only [nI_s, nI_p0] at c_151
                rw [nI_leI (by omega) (by omega)] at c_151
                try simp only [nI_s, nI_p0] at c_183
                rw [nI_leI (by omega) (by omega)] at c_183
                try simp only [nI_s, nI_p0]
                have hval : ∀ (v : Nat), v = lvD u r (n + 1) (i + 1) → nI v = nI (lvD u r (n + 1) (i + 1)) := fun v h => by rw [h]
                refine z_to (ih (k - 1) (by omega) (i + 1) _ (by omega) (se.tr (SE.sI60 (Or.inr (Or.inr (Or.inr rfl))))) (Lt_j hM1 65 (by decide) (by decide) hL) (by rw [fI_sI, if_neg (fun z => hM1.nem (k := 65) (by decide) z.1)]; exact hf) (fun j z hz => by rw [fI_sI, if_neg (fun q => hM1.ne (k := 63) (j := 65) (by decide) (by decide) (by decide) q.1)]; exact hO j z hz) (fun j hj => ?_) (fun j h1 h2 => ?_)) ⟨rfl, rfl, rfl, rfl, trivial⟩
                · rw [fI_sI]
                  by_cases hj2 : j = i + 1
                  · rw [if_pos ⟨rfl, hj2⟩, hj2]
                    exact hval _ (by omega)
                  · rw [if_neg (fun z => hj2 z.2)]; exact hlo j (by omega)
                · rw [fI_sI, if_neg (fun z => by omega)]; exact hhi j (by omega) h2
            · refine z_aload_n g dX11_changes_154 rfl ?_
              refine z_getR g fl_X11_174 hM1.k0 (by decide) rfl (hM1.ref (k := 65) (by decide)) dX11_changes_155 ?_
              refine z_iload g dX11_changes_158 rfl ?_
              refine z_ialdk g (hM1.kA1 (k := 65) (by decide)) (by decide) (vp_in_nI (by rw [hM1.lnI (k := 65) (by decide)]; show _ < 13; omega) (by rw [hM1.lnI (k := 65) (by decide)]; decide)) dX11_changes_160 ?_
              rw [nI_clamp (by omega)]
              rw [hhi (i + 1) (by omega) h104]
              refine z_iconst (v := 1) g dX11_changes_161 (by decide) ?_
              refine z_iadd g dX11_changes_162 ?_
              try simp only [nI_s, nI_p0]
              refine z_goto (tgt := 168) g dX11_changes_163 (by decide) ?_
              refine z_istore g dX11_changes_168 (by rw [hN]; decide) ?_
              refine z_aload_n g dX11_changes_170 rfl ?_
              refine z_getR g fl_X11_174 hM1.k0 (by decide) rfl (hM1.ref (k := 65) (by decide)) dX11_changes_171 ?_
              refine z_iload g dX11_changes_174 rfl ?_
              refine z_iconst (v := 1) g dX11_changes_176 (by decide) ?_
              refine z_isub g dX11_changes_177 ?_
              rw [show nI (i + 1) - 1 = nI i from nI_pred i]
              refine z_ialdk g (hM1.kA1 (k := 65) (by decide)) (by decide) (vp_in_nI (by rw [hM1.lnI (k := 65) (by decide)]; show _ < 13; omega) (by rw [hM1.lnI (k := 65) (by decide)]; decide)) dX11_changes_178 ?_
              rw [nI_clamp (by omega)]
              rw [hlo i (Nat.le_refl _)]
              refine z_iconst (v := 1) g dX11_changes_179 (by decide) ?_
              refine z_iadd g dX11_changes_180 ?_
              try simp only [nI_s, nI_p0]
              refine z_iload g dX11_changes_181 rfl ?_
              refine z_icmp_ge (tgt := 200) g dX11_changes_183 (by decide) (fun c_183 => ?_) (fun c_183 => ?_)
              · refine z_iload g dX11_changes_200 rfl ?_
                refine z_istore g dX11_changes_202 (by rw [hN]; decide) ?_
                refine z_aload_n g dX11_changes_204 rfl ?_
                refine z_getR g fl_X11_174 hM1.k0 (by decide) rfl (hM1.ref (k := 65) (by decide)) dX11_changes_205 ?_
                refine z_iload g dX11_changes_208 rfl ?_
                refine z_ialdk g (hM1.kA1 (k := 65) (by decide)) (by decide) (vp_in_nI (by rw [hM1.lnI (k := 65) (by decide)]; show _ < 13; omega) (by rw [hM1.lnI (k := 65) (by decide)]; decide)) dX11_changes_210 ?_
                rw [nI_clamp (by omega)]
                rw [hhi (i + 1) (by omega) h104]
                refine z_istore g dX11_changes_211 (by rw [hN]; decide) ?_
                refine z_aload_n g dX11_changes_213 rfl ?_
                refine z_getR g fl_X11_174 hM1.k0 (by decide) rfl (hM1.ref (k := 65) (by decide)) dX11_changes_214 ?_
                refine z_iload g dX11_changes_217 rfl ?_
                refine z_iload g dX11_changes_219 rfl ?_
                refine z_iastk g (hM1.kA1 (k := 65) (by decide)) (by decide) (vp_in_nI (by rw [hM1.lnI (k := 65) (by decide)]; show _ < 13; omega) (by rw [hM1.lnI (k := 65) (by decide)]; decide)) dX11_changes_221 ?_
                rw [nI_clamp (by omega)]
                refine z_iinc1 g dX11_changes_222 rfl (by rw [hN]; decide) ?_
                refine z_goto (tgt := 98) g dX11_changes_225 (by decide) ?_
                first
                  | (have e : (if x = y then 0 else 1 : Nat) = 1 := if_neg (fun z => c_129 (by rw [z]))
                     rw [e] at hD)
                  | (have e : (if x = y then 0 else 1 : Nat) = 0 := if_pos ((nI_eq (by omega) (by omega)).mp c_129)
                     rw [e] at hD)
                try simp only [nI_s, nI_p0] at c_151
                rw [nI_leI (by omega) (by omega)] at c_151
                try simp only [nI_s, nI_p0] at c_183
                rw [nI_leI (by omega) (by omega)] at c_183
                try simp only [nI_s, nI_p0]
                have hval : ∀ (v : Nat), v = lvD u r (n + 1) (i + 1) → nI v = nI (lvD u r (n + 1) (i + 1)) := fun v h => by rw [h]
                refine z_to (ih (k - 1) (by omega) (i + 1) _ (by omega) (se.tr (SE.sI60 (Or.inr (Or.inr (Or.inr rfl))))) (Lt_j hM1 65 (by decide) (by decide) hL) (by rw [fI_sI, if_neg (fun z => hM1.nem (k := 65) (by decide) z.1)]; exact hf) (fun j z hz => by rw [fI_sI, if_neg (fun q => hM1.ne (k := 63) (j := 65) (by decide) (by decide) (by decide) q.1)]; exact hO j z hz) (fun j hj => ?_) (fun j h1 h2 => ?_)) ⟨rfl, rfl, rfl, rfl, trivial⟩
                · rw [fI_sI]
                  by_cases hj2 : j = i + 1
                  · rw [if_pos ⟨rfl, hj2⟩, hj2]
                    exact hval _ (by omega)
                  · rw [if_neg (fun z => hj2 z.2)]; exact hlo j (by omega)
                · rw [fI_sI, if_neg (fun z => by omega)]; exact hhi j (by omega) h2
              · refine z_aload_n g dX11_changes_186 rfl ?_
                refine z_getR g fl_X11_174 hM1.k0 (by decide) rfl (hM1.ref (k := 65) (by decide)) dX11_changes_187 ?_
                refine z_iload g dX11_changes_190 rfl ?_
                refine z_iconst (v := 1) g dX11_changes_192 (by decide) ?_
                refine z_isub g dX11_changes_193 ?_
                rw [show nI (i + 1) - 1 = nI i from nI_pred i]
                refine z_ialdk g (hM1.kA1 (k := 65) (by decide)) (by decide) (vp_in_nI (by rw [hM1.lnI (k := 65) (by decide)]; show _ < 13; omega) (by rw [hM1.lnI (k := 65) (by decide)]; decide)) dX11_changes_194 ?_
                rw [nI_clamp (by omega)]
                rw [hlo i (Nat.le_refl _)]
                refine z_iconst (v := 1) g dX11_changes_195 (by decide) ?_
                refine z_iadd g dX11_changes_196 ?_
                try simp only [nI_s, nI_p0]
                refine z_goto (tgt := 202) g dX11_changes_197 (by decide) ?_
                refine z_istore g dX11_changes_202 (by rw [hN]; decide) ?_
                refine z_aload_n g dX11_changes_204 rfl ?_
                refine z_getR g fl_X11_174 hM1.k0 (by decide) rfl (hM1.ref (k := 65) (by decide)) dX11_changes_205 ?_
                refine z_iload g dX11_changes_208 rfl ?_
                refine z_ialdk g (hM1.kA1 (k := 65) (by decide)) (by decide) (vp_in_nI (by rw [hM1.lnI (k := 65) (by decide)]; show _ < 13; omega) (by rw [hM1.lnI (k := 65) (by decide)]; decide)) dX11_changes_210 ?_
                rw [nI_clamp (by omega)]
                rw [hhi (i + 1) (by omega) h104]
                refine z_istore g dX11_changes_211 (by rw [hN]; decide) ?_
                refine z_aload_n g dX11_changes_213 rfl ?_
                refine z_getR g fl_X11_174 hM1.k0 (by decide) rfl (hM1.ref (k := 65) (by decide)) dX11_changes_214 ?_
                refine z_iload g dX11_changes_217 rfl ?_
                refine z_iload g dX11_changes_219 rfl ?_
                refine z_iastk g (hM1.kA1 (k := 65) (by decide)) (by decide) (vp_in_nI (by rw [hM1.lnI (k := 65) (by decide)]; show _ < 13; omega) (by rw [hM1.lnI (k := 65) (by decide)]; decide)) dX11_changes_221 ?_
                rw [nI_clamp (by omega)]
                refine z_iinc1 g dX11_changes_222 rfl (by rw [hN]; decide) ?_
                refine z_goto (tgt := 98) g dX11_changes_225 (by decide) ?_
                first
                  | (have e : (if x = y then 0 else 1 : Nat) = 1 := if_neg (fun z => c_129 (by rw [z]))
                     rw [e] at hD)
                  | (have e : (if x = y then 0 else 1 : Nat) = 0 := if_pos ((nI_eq (by omega) (by omega)).mp c_129)
                     rw [e] at hD)
                try simp only [nI_s, nI_p0] at c_151
                rw [nI_leI (by omega) (by omega)] at c_151
                try simp only [nI_s, nI_p0] at c_183
                rw [nI_leI (by omega) (by omega)] at c_183
                try simp only [nI_s, nI_p0]
                have hval : ∀ (v : Nat), v = lvD u r (n + 1) (i + 1) → nI v = nI (lvD u r (n + 1) (i + 1)) := fun v h => by rw [h]
                refine z_to (ih (k - 1) (by omega) (i + 1) _ (by omega) (se.tr (SE.sI60 (Or.inr (Or.inr (Or.inr rfl))))) (Lt_j hM1 65 (by decide) (by decide) hL) (by rw [fI_sI, if_neg (fun z => hM1.nem (k := 65) (by decide) z.1)]; exact hf) (fun j z hz => by rw [fI_sI, if_neg (fun q => hM1.ne (k := 63) (j := 65) (by decide) (by decide) (by decide) q.1)]; exact hO j z hz) (fun j hj => ?_) (fun j h1 h2 => ?_)) ⟨rfl, rfl, rfl, rfl, trivial⟩
                · rw [fI_sI]
                  by_cases hj2 : j = i + 1
                  · rw [if_pos ⟨rfl, hj2⟩, hj2]
                    exact hval _ (by omega)
                  · rw [if_neg (fun z => hj2 z.2)]; exact hlo j (by omega)
                · rw [fI_sI, if_neg (fun z => by omega)]; exact hhi j (by omega) h2
          · refine z_iconst (v := 0) g dX11_changes_132 (by decide) ?_
            refine z_goto (tgt := 137) g dX11_changes_133 (by decide) ?_
            refine z_iadd g dX11_changes_137 ?_
            refine z_istore g dX11_changes_138 (by rw [hN]; decide) ?_
            refine z_aload_n g dX11_changes_140 rfl ?_
            refine z_getR g fl_X11_174 hM1.k0 (by decide) rfl (hM1.ref (k := 65) (by decide)) dX11_changes_141 ?_
            refine z_iload g dX11_changes_144 rfl ?_
            refine z_ialdk g (hM1.kA1 (k := 65) (by decide)) (by decide) (vp_in_nI (by rw [hM1.lnI (k := 65) (by decide)]; show _ < 13; omega) (by rw [hM1.lnI (k := 65) (by decide)]; decide)) dX11_changes_146 ?_
            rw [nI_clamp (by omega)]
            rw [hhi (i + 1) (by omega) h104]
            refine z_iconst (v := 1) g dX11_changes_147 (by decide) ?_
            refine z_iadd g dX11_changes_148 ?_
            try simp only [nI_s, nI_p0]
            refine z_iload g dX11_changes_149 rfl ?_
            refine z_icmp_ge (tgt := 166) g dX11_changes_151 (by decide) (fun c_151 => ?_) (fun c_151 => ?_)
            · refine z_iload g dX11_changes_166 rfl ?_
              refine z_istore g dX11_changes_168 (by rw [hN]; decide) ?_
              refine z_aload_n g dX11_changes_170 rfl ?_
              refine z_getR g fl_X11_174 hM1.k0 (by decide) rfl (hM1.ref (k := 65) (by decide)) dX11_changes_171 ?_
              refine z_iload g dX11_changes_174 rfl ?_
              refine z_iconst (v := 1) g dX11_changes_176 (by decide) ?_
              refine z_isub g dX11_changes_177 ?_
              rw [show nI (i + 1) - 1 = nI i from nI_pred i]
              refine z_ialdk g (hM1.kA1 (k := 65) (by decide)) (by decide) (vp_in_nI (by rw [hM1.lnI (k := 65) (by decide)]; show _ < 13; omega) (by rw [hM1.lnI (k := 65) (by decide)]; decide)) dX11_changes_178 ?_
              rw [nI_clamp (by omega)]
              rw [hlo i (Nat.le_refl _)]
              refine z_iconst (v := 1) g dX11_changes_179 (by decide) ?_
              refine z_iadd g dX11_changes_180 ?_
              try simp only [nI_s, nI_p0]
              refine z_iload g dX11_changes_181 rfl ?_
              refine z_icmp_ge (tgt := 200) g dX11_changes_183 (by decide) (fun c_183 => ?_) (fun c_183 => ?_)
              · refine z_iload g dX11_changes_200 rfl ?_
                refine z_istore g dX11_changes_202 (by rw [hN]; decide) ?_
                refine z_aload_n g dX11_changes_204 rfl ?_
                refine z_getR g fl_X11_174 hM1.k0 (by decide) rfl (hM1.ref (k := 65) (by decide)) dX11_changes_205 ?_
                refine z_iload g dX11_changes_208 rfl ?_
                refine z_ialdk g (hM1.kA1 (k := 65) (by decide)) (by decide) (vp_in_nI (by rw [hM1.lnI (k := 65) (by decide)]; show _ < 13; omega) (by rw [hM1.lnI (k := 65) (by decide)]; decide)) dX11_changes_210 ?_
                rw [nI_clamp (by omega)]
                rw [hhi (i + 1) (by omega) h104]
                refine z_istore g dX11_changes_211 (by rw [hN]; decide) ?_
                refine z_aload_n g dX11_changes_213 rfl ?_
                refine z_getR g fl_X11_174 hM1.k0 (by decide) rfl (hM1.ref (k := 65) (by decide)) dX11_changes_214 ?_
                refine z_iload g dX11_changes_217 rfl ?_
                refine z_iload g dX11_changes_219 rfl ?_
                refine z_iastk g (hM1.kA1 (k := 65) (by decide)) (by decide) (vp_in_nI (by rw [hM1.lnI (k := 65) (by decide)]; show _ < 13; omega) (by rw [hM1.lnI (k := 65) (by decide)]; decide)) dX11_changes_221 ?_
                rw [nI_clamp (by omega)]
                refine z_iinc1 g dX11_changes_222 rfl (by rw [hN]; decide) ?_
                refine z_goto (tgt := 98) g dX11_changes_225 (by decide) ?_
                first
                  | (have e : (if x = y then 0 else 1 : Nat) = 1 := if_neg (fun z => c_129 (by rw [z]))
                     rw [e] at hD)
                  | (have e : (if x = y then 0 else 1 : Nat) = 0 := if_pos ((nI_eq (by omega) (by omega)).mp c_129)
                     rw [e] at hD)
                try simp only [nI_s, nI_p0] at c_151
                rw [nI_leI (by omega) (by omega)] at c_151
                try simp only [nI_s, nI_p0] at c_183
                rw [nI_leI (by omega) (by omega)] at c_183
                try simp only [nI_s, nI_p0]
                have hval : ∀ (v : Nat), v = lvD u r (n + 1) (i + 1) → nI v = nI (lvD u r (n + 1) (i + 1)) := fun v h => by rw [h]
                refine z_to (ih (k - 1) (by omega) (i + 1) _ (by omega) (se.tr (SE.sI60 (Or.inr (Or.inr (Or.inr rfl))))) (Lt_j hM1 65 (by decide) (by decide) hL) (by rw [fI_sI, if_neg (fun z => hM1.nem (k := 65) (by decide) z.1)]; exact hf) (fun j z hz => by rw [fI_sI, if_neg (fun q => hM1.ne (k := 63) (j := 65) (by decide) (by decide) (by decide) q.1)]; exact hO j z hz) (fun j hj => ?_) (fun j h1 h2 => ?_)) ⟨rfl, rfl, rfl, rfl, trivial⟩
                · rw [fI_sI]
                  by_cases hj2 : j = i + 1
                  · rw [if_pos ⟨rfl, hj2⟩, hj2]
                    exact hval _ (by omega)
                  · rw [if_neg (fun z => hj2 z.2)]; exact hlo j (by omega)
                · rw [fI_sI, if_neg (fun z => by omega)]; exact hhi j (by omega) h2
              · refine z_aload_n g dX11_changes_186 rfl ?_
                refine z_getR g fl_X11_174 hM1.k0 (by decide) rfl (hM1.ref (k := 65) (by decide)) dX11_changes_187 ?_
                refine z_iload g dX11_changes_190 rfl ?_
                refine z_iconst (v := 1) g dX11_changes_192 (by decide) ?_
                refine z_isub g dX11_changes_193 ?_
                rw [show nI (i + 1) - 1 = nI i from nI_pred i]
                refine z_ialdk g (hM1.kA1 (k := 65) (by decide)) (by decide) (vp_in_nI (by rw [hM1.lnI (k := 65) (by decide)]; show _ < 13; omega) (by rw [hM1.lnI (k := 65) (by decide)]; decide)) dX11_changes_194 ?_
                rw [nI_clamp (by omega)]
                rw [hlo i (Nat.le_refl _)]
                refine z_iconst (v := 1) g dX11_changes_195 (by decide) ?_
                refine z_iadd g dX11_changes_196 ?_
                try simp only [nI_s, nI_p0]
                refine z_goto (tgt := 202) g dX11_changes_197 (by decide) ?_
                refine z_istore g dX11_changes_202 (by rw [hN]; decide) ?_
                refine z_aload_n g dX11_changes_204 rfl ?_
                refine z_getR g fl_X11_174 hM1.k0 (by decide) rfl (hM1.ref (k := 65) (by decide)) dX11_changes_205 ?_
                refine z_iload g dX11_changes_208 rfl ?_
                refine z_ialdk g (hM1.kA1 (k := 65) (by decide)) (by decide) (vp_in_nI (by rw [hM1.lnI (k := 65) (by decide)]; show _ < 13; omega) (by rw [hM1.lnI (k := 65) (by decide)]; decide)) dX11_changes_210 ?_
                rw [nI_clamp (by omega)]
                rw [hhi (i + 1) (by omega) h104]
                refine z_istore g dX11_changes_211 (by rw [hN]; decide) ?_
                refine z_aload_n g dX11_changes_213 rfl ?_
                refine z_getR g fl_X11_174 hM1.k0 (by decide) rfl (hM1.ref (k := 65) (by decide)) dX11_changes_214 ?_
                refine z_iload g dX11_changes_217 rfl ?_
                refine z_iload g dX11_changes_219 rfl ?_
                refine z_iastk g (hM1.kA1 (k := 65) (by decide)) (by decide) (vp_in_nI (by rw [hM1.lnI (k := 65) (by decide)]; show _ < 13; omega) (by rw [hM1.lnI (k := 65) (by decide)]; decide)) dX11_changes_221 ?_
                rw [nI_clamp (by omega)]
                refine z_iinc1 g dX11_changes_222 rfl (by rw [hN]; decide) ?_
                refine z_goto (tgt := 98) g dX11_changes_225 (by decide) ?_
                first
                  | (have e : (if x = y then 0 else 1 : Nat) = 1 := if_neg (fun z => c_129 (by rw [z]))
                     rw [e] at hD)
                  | (have e : (if x = y then 0 else 1 : Nat) = 0 := if_pos ((nI_eq (by omega) (by omega)).mp c_129)
                     rw [e] at hD)
                try simp only [nI_s, nI_p0] at c_151
                rw [nI_leI (by omega) (by omega)] at c_151
                try simp only [nI_s, nI_p0] at c_183
                rw [nI_leI (by omega) (by omega)] at c_183
                try simp only [nI_s, nI_p0]
                have hval : ∀ (v : Nat), v = lvD u r (n + 1) (i + 1) → nI v = nI (lvD u r (n + 1) (i + 1)) := fun v h => by rw [h]
                refine z_to (ih (k - 1) (by omega) (i + 1) _ (by omega) (se.tr (SE.sI60 (Or.inr (Or.inr (Or.inr rfl))))) (Lt_j hM1 65 (by decide) (by decide) hL) (by rw [fI_sI, if_neg (fun z => hM1.nem (k := 65) (by decide) z.1)]; exact hf) (fun j z hz => by rw [fI_sI, if_neg (fun q => hM1.ne (k := 63) (j := 65) (by decide) (by decide) (by decide) q.1)]; exact hO j z hz) (fun j hj => ?_) (fun j h1 h2 => ?_)) ⟨rfl, rfl, rfl, rfl, trivial⟩
                · rw [fI_sI]
                  by_cases hj2 : j = i + 1
                  · rw [if_pos ⟨rfl, hj2⟩, hj2]
                    exact hval _ (by omega)
                  · rw [if_neg (fun z => hj2 z.2)]; exact hlo j (by omega)
                · rw [fI_sI, if_neg (fun z => by omega)]; exact hhi j (by omega) h2
            · refine z_aload_n g dX11_changes_154 rfl ?_
              refine z_getR g fl_X11_174 hM1.k0 (by decide) rfl (hM1.ref (k := 65) (by decide)) dX11_changes_155 ?_
              refine z_iload g dX11_changes_158 rfl ?_
              refine z_ialdk g (hM1.kA1 (k := 65) (by decide)) (by decide) (vp_in_nI (by rw [hM1.lnI (k := 65) (by decide)]; show _ < 13; omega) (by rw [hM1.lnI (k := 65) (by decide)]; decide)) dX11_changes_160 ?_
              rw [nI_clamp (by omega)]
              rw [hhi (i + 1) (by omega) h104]
              refine z_iconst (v := 1) g dX11_changes_161 (by decide) ?_
              refine z_iadd g dX11_changes_162 ?_
              try simp only [nI_s, nI_p0]
              refine z_goto (tgt := 168) g dX11_changes_163 (by decide) ?_
              refine z_istore g dX11_changes_168 (by rw [hN]; decide) ?_
              refine z_aload_n g dX11_changes_170 rfl ?_
              refine z_getR g fl_X11_174 hM1.k0 (by decide) rfl (hM1.ref (k := 65) (by decide)) dX11_changes_171 ?_
              refine z_iload g dX11_changes_174 rfl ?_
              refine z_iconst (v := 1) g dX11_changes_176 (by decide) ?_
              refine z_isub g dX11_changes_177 ?_
              rw [show nI (i + 1) - 1 = nI i from nI_pred i]
              refine z_ialdk g (hM1.kA1 (k := 65) (by decide)) (by decide) (vp_in_nI (by rw [hM1.lnI (k := 65) (by decide)]; show _ < 13; omega) (by rw [hM1.lnI (k := 65) (by decide)]; decide)) dX11_changes_178 ?_
              rw [nI_clamp (by omega)]
              rw [hlo i (Nat.le_refl _)]
              refine z_iconst (v := 1) g dX11_changes_179 (by decide) ?_
              refine z_iadd g dX11_changes_180 ?_
              try simp only [nI_s, nI_p0]
              refine z_iload g dX11_changes_181 rfl ?_
              refine z_icmp_ge (tgt := 200) g dX11_changes_183 (by decide) (fun c_183 => ?_) (fun c_183 => ?_)
              · refine z_iload g dX11_changes_200 rfl ?_
                refine z_istore g dX11_changes_202 (by rw [hN]; decide) ?_
                refine z_aload_n g dX11_changes_204 rfl ?_
                refine z_getR g fl_X11_174 hM1.k0 (by decide) rfl (hM1.ref (k := 65) (by decide)) dX11_changes_205 ?_
                refine z_iload g dX11_changes_208 rfl ?_
                refine z_ialdk g (hM1.kA1 (k := 65) (by decide)) (by decide) (vp_in_nI (by rw [hM1.lnI (k := 65) (by decide)]; show _ < 13; omega) (by rw [hM1.lnI (k := 65) (by decide)]; decide)) dX11_changes_210 ?_
                rw [nI_clamp (by omega)]
                rw [hhi (i + 1) (by omega) h104]
                refine z_istore g dX11_changes_211 (by rw [hN]; decide) ?_
                refine z_aload_n g dX11_changes_213 rfl ?_
                refine z_getR g fl_X11_174 hM1.k0 (by decide) rfl (hM1.ref (k := 65) (by decide)) dX11_changes_214 ?_
                refine z_iload g dX11_changes_217 rfl ?_
                refine z_iload g dX11_changes_219 rfl ?_
                refine z_iastk g (hM1.kA1 (k := 65) (by decide)) (by decide) (vp_in_nI (by rw [hM1.lnI (k := 65) (by decide)]; show _ < 13; omega) (by rw [hM1.lnI (k := 65) (by decide)]; decide)) dX11_changes_221 ?_
                rw [nI_clamp (by omega)]
                refine z_iinc1 g dX11_changes_222 rfl (by rw [hN]; decide) ?_
                refine z_goto (tgt := 98) g dX11_changes_225 (by decide) ?_
                first
                  | (have e : (if x = y then 0 else 1 : Nat) = 1 := if_neg (fun z => c_129 (by rw [z]))
                     rw [e] at hD)
                  | (have e : (if x = y then 0 else 1 : Nat) = 0 := if_pos ((nI_eq (by omega) (by omega)).mp c_129)
                     rw [e] at hD)
                try simp only [nI_s, nI_p0] at c_151
                rw [nI_leI (by omega) (by omega)] at c_151
                try simp only [nI_s, nI_p0] at c_183
                rw [nI_leI (by omega) (by omega)] at c_183
                try simp only [nI_s, nI_p0]
                have hval : ∀ (v : Nat), v = lvD u r (n + 1) (i + 1) → nI v = nI (lvD u r (n + 1) (i + 1)) := fun v h => by rw [h]
                refine z_to (ih (k - 1) (by omega) (i + 1) _ (by omega) (se.tr (SE.sI60 (Or.inr (Or.inr (Or.inr rfl))))) (Lt_j hM1 65 (by decide) (by decide) hL) (by rw [fI_sI, if_neg (fun z => hM1.nem (k := 65) (by decide) z.1)]; exact hf) (fun j z hz => by rw [fI_sI, if_neg (fun q => hM1.ne (k := 63) (j := 65) (by decide) (by decide) (by decide) q.1)]; exact hO j z hz) (fun j hj => ?_) (fun j h1 h2 => ?_)) ⟨rfl, rfl, rfl, rfl, trivial⟩
                · rw [fI_sI]
                  by_cases hj2 : j = i + 1
                  · rw [if_pos ⟨rfl, hj2⟩, hj2]
                    exact hval _ (by omega)
                  · rw [if_neg (fun z => hj2 z.2)]; exact hlo j (by omega)
                · rw [fI_sI, if_neg (fun z => by omega)]; exact hhi j (by omega) h2
              · refine z_aload_n g dX11_changes_186 rfl ?_
                refine z_getR g fl_X11_174 hM1.k0 (by decide) rfl (hM1.ref (k := 65) (by decide)) dX11_changes_187 ?_
                refine z_iload g dX11_changes_190 rfl ?_
                refine z_iconst (v := 1) g dX11_changes_192 (by decide) ?_
                refine z_isub g dX11_changes_193 ?_
                rw [show nI (i + 1) - 1 = nI i from nI_pred i]
                refine z_ialdk g (hM1.kA1 (k := 65) (by decide)) (by decide) (vp_in_nI (by rw [hM1.lnI (k := 65) (by decide)]; show _ < 13; omega) (by rw [hM1.lnI (k := 65) (by decide)]; decide)) dX11_changes_194 ?_
                rw [nI_clamp (by omega)]
                rw [hlo i (Nat.le_refl _)]
                refine z_iconst (v := 1) g dX11_changes_195 (by decide) ?_
                refine z_iadd g dX11_changes_196 ?_
                try simp only [nI_s, nI_p0]
                refine z_goto (tgt := 202) g dX11_changes_197 (by decide) ?_
                refine z_istore g dX11_changes_202 (by rw [hN]; decide) ?_
                refine z_aload_n g dX11_changes_204 rfl ?_
                refine z_getR g fl_X11_174 hM1.k0 (by decide) rfl (hM1.ref (k := 65) (by decide)) dX11_changes_205 ?_
                refine z_iload g dX11_changes_208 rfl ?_
                refine z_ialdk g (hM1.kA1 (k := 65) (by decide)) (by decide) (vp_in_nI (by rw [hM1.lnI (k := 65) (by decide)]; show _ < 13; omega) (by rw [hM1.lnI (k := 65) (by decide)]; decide)) dX11_changes_210 ?_
                rw [nI_clamp (by omega)]
                rw [hhi (i + 1) (by omega) h104]
                refine z_istore g dX11_changes_211 (by rw [hN]; decide) ?_
                refine z_aload_n g dX11_changes_213 rfl ?_
                refine z_getR g fl_X11_174 hM1.k0 (by decide) rfl (hM1.ref (k := 65) (by decide)) dX11_changes_214 ?_
                refine z_iload g dX11_changes_217 rfl ?_
                refine z_iload g dX11_changes_219 rfl ?_
                refine z_iastk g (hM1.kA1 (k := 65) (by decide)) (by decide) (vp_in_nI (by rw [hM1.lnI (k := 65) (by decide)]; show _ < 13; omega) (by rw [hM1.lnI (k := 65) (by decide)]; decide)) dX11_changes_221 ?_
                rw [nI_clamp (by omega)]
                refine z_iinc1 g dX11_changes_222 rfl (by rw [hN]; decide) ?_
                refine z_goto (tgt := 98) g dX11_changes_225 (by decide) ?_
                first
                  | (have e : (if x = y then 0 else 1 : Nat) = 1 := if_neg (fun z => c_129 (by rw [z]))
                     rw [e] at hD)
                  | (have e : (if x = y then 0 else 1 : Nat) = 0 := if_pos ((nI_eq (by omega) (by omega)).mp c_129)
                     rw [e] at hD)
                try simp only [nI_s, nI_p0] at c_151
                rw [nI_leI (by omega) (by omega)] at c_151
                try simp only [nI_s, nI_p0] at c_183
                rw [nI_leI (by omega) (by omega)] at c_183
                try simp only [nI_s, nI_p0]
                have hval : ∀ (v : Nat), v = lvD u r (n + 1) (i + 1) → nI v = nI (lvD u r (n + 1) (i + 1)) := fun v h => by rw [h]
                refine z_to (ih (k - 1) (by omega) (i + 1) _ (by omega) (se.tr (SE.sI60 (Or.inr (Or.inr (Or.inr rfl))))) (Lt_j hM1 65 (by decide) (by decide) hL) (by rw [fI_sI, if_neg (fun z => hM1.nem (k := 65) (by decide) z.1)]; exact hf) (fun j z hz => by rw [fI_sI, if_neg (fun q => hM1.ne (k := 63) (j := 65) (by decide) (by decide) (by decide) q.1)]; exact hO j z hz) (fun j hj => ?_) (fun j h1 h2 => ?_)) ⟨rfl, rfl, rfl, rfl, trivial⟩
                · rw [fI_sI]
                  by_cases hj2 : j = i + 1
                  · rw [if_pos ⟨rfl, hj2⟩, hj2]
                    exact hval _ (by omega)
                  · rw [if_neg (fun z => hj2 z.2)]; exact hlo j (by omega)
                · rw [fI_sI, if_neg (fun z => by omega)]; exact hhi j (by omega) h2
      refine z_aload_n g dX11_changes_80 rfl ?_
      refine z_getR g fl_X11_174 hM1.k0 (by decide) rfl (hM1.ref (k := 65) (by decide)) dX11_changes_81 ?_
      refine z_iconst (v := 0) g dX11_changes_84 (by decide) ?_
      rw [show (0 : Int32) = nI 0 from rfl]
      refine z_ialdk g (hM1.kA1 (k := 65) (by decide)) (by decide) (vp_in_nI (by rw [hM1.lnI (k := 65) (by decide)]; show _ < 13; omega) (by rw [hM1.lnI (k := 65) (by decide)]; decide)) dX11_changes_85 ?_
      rw [nI_clamp (by omega)]
      rw [hrow 0 (Nat.zero_le _)]
      refine z_istore g dX11_changes_86 (by rw [hN]; decide) ?_
      refine z_aload_n g dX11_changes_88 rfl ?_
      refine z_getR g fl_X11_174 hM1.k0 (by decide) rfl (hM1.ref (k := 65) (by decide)) dX11_changes_89 ?_
      refine z_iconst (v := 0) g dX11_changes_92 (by decide) ?_
      refine z_iload_n g dX11_changes_93 rfl ?_
      rw [show (0 : Int32) = nI 0 from rfl]
      refine z_iastk g (hM1.kA1 (k := 65) (by decide)) (by decide) (vp_in_nI (by rw [hM1.lnI (k := 65) (by decide)]; show _ < 13; omega) (by rw [hM1.lnI (k := 65) (by decide)]; decide)) dX11_changes_94 ?_
      rw [nI_clamp (by omega)]
      refine z_iconst (v := 1) g dX11_changes_95 (by decide) ?_
      refine z_istore g dX11_changes_96 (by rw [hN]; decide) ?_
      refine z_to (inner r.length 0 _ rfl (se.tr (SE.sI60 (Or.inr (Or.inr (Or.inr rfl))))) (Lt_j hM1 65 (by decide) (by decide) hL) (by rw [fI_sI, if_neg (fun z => hM1.nem (k := 65) (by decide) z.1)]; exact hf) (fun j z hz => by rw [fI_sI, if_neg (fun q => hM1.ne (k := 63) (j := 65) (by decide) (by decide) (by decide) q.1)]; exact hO j z hz) (fun j hj => ?_) (fun j h1 h2 => ?_)) ⟨rfl, rfl, rfl, rfl, trivial⟩
      · rw [show j = 0 by omega, fI_sI, if_pos ⟨rfl, rfl⟩, lvD_n0 u r (by omega)]
      · rw [fI_sI, if_neg (fun z => by omega)]; exact hrow j h2
  have rows : ∀ (k q : Nat) (M1 : Mm) (hk : k + q = r.length + 1) (se : SE A m M M1) (hL : Lt A m M1 u) (hf : fI M1 m 64 = nI r.length) (hO : ∀ j z, r[j]? = some z → fI M1 (A 63) j = nI z) (hrow : ∀ j, j < q → fI M1 (A 65) j = nI j), Z X M1 0 0 49 [(0, .ref m), (3, .int (nI q))] [] := by
    intro k
    induction k using Nat.strongRecOn with
    | _ k ih =>
      intro q M1 hk se hL hf hO hrow
      have hM1 := hM.SE se
      refine z_iload_n g dX11_changes_49 rfl ?_
      refine z_aload_n g dX11_changes_50 rfl ?_
      refine z_getI g fl_X11_308 hM1.k0 (by decide) rfl dX11_changes_51 ?_
      rw [hf]
      refine z_icmp_gt (tgt := 70) g dX11_changes_54 (by decide) (fun c_54 => ?_) (fun c_54 => ?_)
      · rw [nI_ltI (by omega) (by omega)] at c_54
        refine z_iconst (v := 1) g dX11_changes_70 (by decide) ?_
        refine z_istore_n g dX11_changes_71 (by rw [hN]; decide) ?_
        exact z_to (outer _ 0 M1 rfl se hL hf hO (fun j hj => by rw [lvD_0 u r hj]; exact hrow j (by omega))) ⟨rfl, rfl, trivial⟩
      have h54 : q ≤ r.length := by rw [nI_ltI (by omega) (by omega)] at c_54; omega
      refine z_aload_n g dX11_changes_57 rfl ?_
      refine z_getR g fl_X11_174 hM1.k0 (by decide) rfl (hM1.ref (k := 65) (by decide)) dX11_changes_58 ?_
      refine z_iload_n g dX11_changes_61 rfl ?_
      refine z_iload_n g dX11_changes_62 rfl ?_
      refine z_iastk g (hM1.kA1 (k := 65) (by decide)) (by decide) (vp_in_nI (by rw [hM1.lnI (k := 65) (by decide)]; show _ < 13; omega) (by rw [hM1.lnI (k := 65) (by decide)]; decide)) dX11_changes_63 ?_
      rw [nI_clamp (by omega)]
      refine z_iinc1 g dX11_changes_64 rfl (by rw [hN]; decide) ?_
      refine z_goto (tgt := 49) g dX11_changes_67 (by decide) ?_
      rw [nI_s]
      refine z_to (ih (k - 1) (by omega) (q + 1) _ (by omega) (se.tr (SE.sI60 (Or.inr (Or.inr (Or.inr rfl))))) (Lt_j hM1 65 (by decide) (by decide) hL) (by rw [fI_sI, if_neg (fun z => hM1.nem (k := 65) (by decide) z.1)]; exact hf) (fun j z hz => by rw [fI_sI, if_neg (fun p => hM1.ne (k := 63) (j := 65) (by decide) (by decide) (by decide) p.1)]; exact hO j z hz) (fun j hj => ?_)) ⟨rfl, rfl, trivial⟩
      rw [fI_sI]
      by_cases hj2 : j = q
      · rw [if_pos ⟨rfl, hj2⟩, hj2]
      · rw [if_neg (fun z => hj2 z.2)]; exact hrow j (by omega)
  have first_ : ∀ (k j : Nat) (s : List Nat) (M1 : Mm) (hk : k = s.length) (hj : j + s.length = r.length) (hs : LW 12 s) (hd : r.drop j = s) (se : SE A m M M1) (hL : Lt A m M1 u) (hf : fI M1 m 64 = nI j) (hO : ∀ i z, i < j → r[i]? = some z → fI M1 (A 63) i = nI z), Z X M1 0 0 7 [(0, .ref m), (3, .long (lN (lv s)))] [] := by
    intro k
    induction k using Nat.strongRecOn with
    | _ k ih =>
      intro j s M1 hk hj hs hd se hL hf hO
      have hM1 := hM.SE se
      refine z_lload_n g dX11_changes_7 rfl ?_
      refine z_lconst (v := 0) g dX11_changes_8 (by decide) ?_
      refine z_lcmp g dX11_changes_9 ?_
      refine z_if_le (tgt := 47) g dX11_changes_10 (by decide) (fun c_10 => ?_) (fun c_10 => ?_)
      · have h0 : s = [] := (lv_z hs).mp ((c0_le (hs.lt63 (Nat.le_refl _))).mp c_10)
        rw [h0, List.length_nil, Nat.add_zero] at hj
        refine z_iconst (v := 0) g dX11_changes_47 (by decide) ?_
        refine z_istore_n g dX11_changes_48 (by rw [hN]; decide) ?_
        exact z_to (rows _ 0 M1 rfl se hL (by rw [hf, hj]) (fun i z hz => hO i z (by
          rcases Nat.lt_or_ge i j with q | q
          · exact q
          · rw [List.getElem?_eq_none (by omega)] at hz; cases hz) hz) (fun j hj => absurd hj (Nat.not_lt_zero j))) ⟨rfl, rfl, trivial⟩
      obtain ⟨x, s, rfl⟩ : ∃ x s', s = x :: s' := by
        cases s with
        | nil => exact absurd ((c0_le (m := lv []) (by decide)).mpr rfl) c_10
        | cons x s => exact ⟨x, s, rfl⟩
      have hx := hs.2 x List.mem_cons_self
      have hls : lv (x :: s) < 2 ^ 63 := hs.lt63 (Nat.le_refl _)
      have hl := hr.1
      simp only [List.length_cons] at hj hk
      have hrj : r[j]? = some x := by rw [← Nat.add_zero j, ← List.getElem?_drop, hd]; rfl
      refine z_aload_n g dX11_changes_13 rfl ?_
      refine z_getR g fl_X11_171 hM1.k0 (by decide) rfl (hM1.ref (k := 63) (by decide)) dX11_changes_14 ?_
      refine z_aload_n g dX11_changes_17 rfl ?_
      refine z_getI g fl_X11_308 hM1.k0 (by decide) rfl dX11_changes_18 ?_
      rw [hf]
      refine z_lload_n g dX11_changes_21 rfl ?_
      refine z_ldc2 g dX11_changes_22 kc_X11_193 ?_
      refine z_lrem g dX11_changes_25 (by decide) ?_
      rw [rem27 hls, lv_mod hx.2]
      refine z_l2i g dX11_changes_26 ?_
      rw [l2i_n]
      refine z_iastk g (hM1.kA1 (k := 63) (by decide)) (by decide) (vp_in_nI (by rw [hM1.lnI (k := 63) (by decide)]; show _ < 12; omega) (by rw [hM1.lnI (k := 63) (by decide)]; decide)) dX11_changes_27 ?_
      rw [nI_clamp (by omega)]
      have se2 : SE A m M (sI M1 (A 63) j (nI x)) := se.tr (SE.sI60 (Or.inr (Or.inr (Or.inl rfl))))
      have hM2 := hM.SE se2
      refine z_aload_n g dX11_changes_28 rfl ?_
      refine z_dup g dX11_changes_29 rfl ?_
      refine z_getI g fl_X11_308 hM2.k0 (by decide) rfl dX11_changes_30 ?_
      rw [show fI (sI M1 (A 63) j (nI x)) m 64 = nI j by rw [fI_sI, if_neg (fun z => hM1.nem (k := 63) (by decide) z.1)]; exact hf]
      refine z_iconst (v := 1) g dX11_changes_33 (by decide) ?_
      refine z_iadd g dX11_changes_34 ?_
      refine z_putI g fp_X11_308 hM2.k0 (by decide) rfl (fun h => nomatch h) dX11_changes_35 ?_
      refine z_lload_n g dX11_changes_38 rfl ?_
      refine z_ldc2 g dX11_changes_39 kc_X11_193 ?_
      refine z_ldiv g dX11_changes_42 (by decide) ?_
      rw [div27 hls, lv_div hx.2]
      refine z_lstore_n g dX11_changes_43 (by rw [hN]; decide) ?_
      refine z_goto (tgt := 7) g dX11_changes_44 (by decide) ?_
      rw [nI_s]
      refine z_to (ih s.length (by omega) (j + 1) s _ rfl (by omega) (LW.mono (LW.tl (n := 11) hs) (by decide)) (by rw [← List.drop_drop, hd]; rfl) (se2.tr (SE.sIm (Or.inr rfl))) (Lt_64 hM2 (Lt_j hM1 63 (by decide) (by decide) hL)) (by rw [fI_sI, if_pos ⟨rfl, rfl⟩]) (fun i z hi hz => ?_)) ⟨rfl, rfl, trivial⟩
      rw [fI_sI, if_neg (fun q => hM1.nem (k := 63) (by decide) q.1.symm), fI_sI]
      by_cases hij : i = j
      · rw [if_pos ⟨rfl, hij⟩]
        rw [hij, hrj] at hz; cases hz; rfl
      · rw [if_neg (fun q => hij q.2)]; exact hO i z (by omega) hz
  refine z_aload_n g dX11_changes_0 rfl ?_
  refine z_iconst (v := 0) g dX11_changes_1 (by decide) ?_
  refine z_putI g fp_X11_308 hM.k0 (by decide) rfl (fun h => nomatch h) dX11_changes_2 ?_
  refine z_lload_n g dX11_changes_5 rfl ?_
  refine z_lstore_n g dX11_changes_6 (by rw [hN]; decide) ?_
  exact z_to (first_ r.length 0 r _ rfl (Nat.zero_add _) hr rfl (SE.sIm (Or.inr rfl)) (Lt_64 hM hLt) (by rw [fI_sI, if_pos ⟨rfl, rfl⟩]; rfl) (fun i z hi _ => absurd hi (Nat.not_lt_zero i))) ⟨rfl, rfl, trivial⟩
