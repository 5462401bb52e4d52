def rowI (M : Mm) (a : Nat) (f : Nat → Int32) : Mm := (M.1, up1 M.2.1 a f, M.2.2)
def pu (f : Nat → Int32) (k : Nat) (v : Int32) : Nat → Int32 := fun j => if j = k then v else f j
theorem fI_rowI {M : Mm} {a : Nat} {f : Nat → Int32} {b : Nat} : fI (rowI M a f) b = if b = a then f else fI M b := rfl
theorem rowI_s (M : Mm) (a : Nat) (f : Nat → Int32) : fI (rowI M a f) a = f := by rw [fI_rowI, if_pos rfl]
theorem rowI_n (M : Mm) {a b : Nat} (f : Nat → Int32) (h : b ≠ a) : fI (rowI M a f) b = fI M b := by rw [fI_rowI, if_neg h]
theorem sI_row (M : Mm) (a k : Nat) (v : Int32) : sI M a k v = rowI M a (pu (fI M a) k v) := by
  unfold sI rowI
  congr 2
  funext b
  unfold up2 up1
  by_cases h : b = a
  · subst h
    rw [if_pos rfl]
    funext j
    unfold pu
    by_cases h2 : j = k
    · rw [if_pos ⟨rfl, h2⟩, if_pos h2]
    · rw [if_neg (fun z => h2 z.2), if_neg h2]; rfl
  · rw [if_neg h]
    funext j
    rw [if_neg (fun z => h z.1)]
theorem rowI_rowI (M : Mm) (a : Nat) (f g : Nat → Int32) : rowI (rowI M a f) a g = rowI M a g := by
  unfold rowI
  congr 2
  funext b
  unfold up1
  by_cases h : b = a
  · rw [if_pos h, if_pos h]
  · rw [if_neg h, if_neg h]; exact if_neg h
theorem rowI_comm (M : Mm) {a b : Nat} (h : a ≠ b) (f g : Nat → Int32) : rowI (rowI M a f) b g = rowI (rowI M b g) a f := by
  unfold rowI
  congr 2
  funext c
  unfold up1
  dsimp only
  by_cases h1 : c = a
  · subst h1; rw [if_neg h, if_pos rfl, if_pos rfl]
  · by_cases h2 : c = b
    · rw [if_pos h2, if_neg h1, if_pos h2]
    · rw [if_neg h2, if_neg h1, if_neg h1, if_neg h2]
theorem rowI_self (M : Mm) (a : Nat) : rowI M a (fI M a) = M := by
  have h : (up1 M.2.1 a (fI M a)) = M.2.1 := by
    funext b
    unfold up1
    by_cases h : b = a
    · rw [if_pos h, h]; rfl
    · rw [if_neg h]
  show (M.1, up1 M.2.1 a (fI M a), M.2.2) = M
  rw [h]
abbrev WL : Type := (Nat → Int32) × (Nat → Int32)
def W2 (M : Mm) (w l : Nat) (S : WL) : Mm := rowI (rowI M w S.1) l S.2
theorem W2_self (M : Mm) (w l : Nat) : W2 M w l (fI M w, fI M l) = M := by
  unfold W2; dsimp only
  rw [rowI_self, rowI_self]
theorem W2_l {M : Mm} {w l : Nat} {S : WL} : fI (W2 M w l S) l = S.2 := rowI_s _ _ _
theorem W2_w {M : Mm} {w l : Nat} {S : WL} (h : w ≠ l) : fI (W2 M w l S) w = S.1 := (rowI_n _ _ h).trans (rowI_s _ _ _)
theorem W2_o {M : Mm} {w l b : Nat} {S : WL} (h1 : b ≠ w) (h2 : b ≠ l) : fI (W2 M w l S) b = fI M b := (rowI_n _ _ h2).trans (rowI_n _ _ h1)
theorem W2_sl {M : Mm} {w l k : Nat} {S : WL} {v : Int32} : sI (W2 M w l S) l k v = W2 M w l (S.1, pu S.2 k v) := by
  rw [sI_row, W2_l]; exact rowI_rowI _ _ _ _
theorem W2_sw {M : Mm} {w l k : Nat} {S : WL} {v : Int32} (h : w ≠ l) : sI (W2 M w l S) w k v = W2 M w l (pu S.1 k v, S.2) := by
  rw [sI_row, W2_w h]
  unfold W2
  dsimp only
  rw [rowI_comm _ h, rowI_rowI, rowI_comm _ h.symm]
def exS (S : WL) (i t : Nat) (c : Int32) : WL := if S.2 t = -1 ∨ ¬ S.2 t ≤ S.2 i + c then (pu S.1 t (S.1 t + S.1 i), pu S.2 t (S.2 i + c)) else (pu S.1 t (S.1 t + S.1 i), S.2)
def stp (C : Nat → Int32) (S : WL) (set r : Nat) : WL := if (nI set &&& (1 <<< (nI r &&& 31))) = 0 ∧ ¬ C r = -1 ∧ ¬ S.1 set ≤ 0 then exS S set (set + 2 ^ r) (C r) else S
def afI (C : Nat → Int32) (S : WL) (set : Nat) : Nat → WL
  | 0 => S
  | r + 1 => stp C (afI C S set r) set r
def afO (C : Nat → Int32) (S : WL) : Nat → WL
  | 0 => S
  | m + 1 => afO C (afI C S m 4) m
theorem af_or : ∀ s, s < 16 → ∀ r, r < 4 → (nI s &&& (1 <<< (nI r &&& 31)) = 0) → (nI s ||| (1 <<< (nI r &&& 31))) = nI (s + 2 ^ r) ∧ s + 2 ^ r < 16 := by decide +kernel
set_option maxHeartbeats 4000000 in
set_option maxRecDepth 100000 in
theorem c_ext (E : Ev) (M : Mm) (s c w l : Nat) (k1 : kd M s % 1000 = 1) (f0 : fR M s 0 = some c) (f1 : fR M s 1 = some w) (f2 : fR M s 2 = some l) (kc : kd M c % 1000 = 172) (kw : kd M w % 1000 = 173) (kl : kd M l % 1000 = 174) (lc : ln M c = 4) (lw : ln M w = 16) (ll : ln M l = 16) (S : WL) (i t : Nat) (hi : i < 16) (ht : t < 16) (v : Int32) : CT E yX0_extend cX0_extend 5 none 1 0 0 [.ref s, .int (nI i), .int (nI t), .int v] (W2 M w l S) (ansV (W2 M w l (exS S i t v))) noX := by
  refine CT.of rfl (Nat.le_of_ble_eq_true rfl) (fun X g hrt hno hE hN hR hI => ?_)
  subst hE
  have hwl : w ≠ l := fun z => by rw [z, kl] at kw; cases kw
  have hcw : c ≠ w := fun z => by rw [z, kw] at kc; cases kc
  have hcl : c ≠ l := fun z => by rw [z, kl] at kc; cases kc
  refine z_iload_n g dX0_extend_0 rfl ?_
  refine z_if_lt (tgt := 20) g dX0_extend_1 (by decide) (fun c_1 => (by exact absurd c_1 (nI_pos (by omega)))) (fun c_1 => ?_)
  refine z_iload_n g dX0_extend_4 rfl ?_
  refine z_bipush (v := 16) g dX0_extend_5 (by decide) ?_
  refine z_icmp_ge (tgt := 20) g dX0_extend_7 (by decide) (fun c_7 => (by rw [show (16 : Int32) = nI 16 from rfl, nI_leI (by omega) (by omega)] at c_7; omega)) (fun c_7 => ?_)
  refine z_iload_n g dX0_extend_10 rfl ?_
  refine z_if_lt (tgt := 20) g dX0_extend_11 (by decide) (fun c_11 => (by exact absurd c_11 (nI_pos (by omega)))) (fun c_11 => ?_)
  refine z_iload_n g dX0_extend_14 rfl ?_
  refine z_bipush (v := 16) g dX0_extend_15 (by decide) ?_
  refine z_icmp_lt (tgt := 21) g dX0_extend_17 (by decide) (fun c_17 => ?_) (fun c_17 => (by exact absurd (nI_lt ht (by decide)) c_17))
  refine z_aload_n g dX0_extend_21 rfl ?_
  refine z_getR g fl_X0_18 k1 (by decide) rfl f2 dX0_extend_22 ?_
  refine z_iload_n g dX0_extend_25 rfl ?_
  refine z_ialdk (k := 174) g kl (by decide) (vp_in_nI (by show _ < ln M l; omega) (by show ln M l < _; omega)) dX0_extend_26 ?_
  rw [nI_clamp (by omega), W2_l]
  refine z_iload_n g dX0_extend_27 rfl ?_
  refine z_iadd g dX0_extend_28 ?_
  refine z_istore g dX0_extend_29 (by rw [hN]; decide) ?_
  refine z_aload_n g dX0_extend_31 rfl ?_
  refine z_getR g fl_X0_15 k1 (by decide) rfl f1 dX0_extend_32 ?_
  refine z_iload_n g dX0_extend_35 rfl ?_
  refine z_dup2 g dX0_extend_36 rfl rfl ?_
  refine z_ialdk (k := 173) g kw (by decide) (vp_in_nI (by show _ < ln M w; omega) (by show ln M w < _; omega)) dX0_extend_37 ?_
  rw [nI_clamp (by omega), W2_w hwl]
  refine z_aload_n g dX0_extend_38 rfl ?_
  refine z_getR g fl_X0_15 k1 (by decide) rfl f1 dX0_extend_39 ?_
  refine z_iload_n g dX0_extend_42 rfl ?_
  refine z_ialdk (k := 173) g kw (by decide) (vp_in_nI (by show _ < ln M w; omega) (by show ln M w < _; omega)) dX0_extend_43 ?_
  rw [nI_clamp (by omega), W2_w hwl]
  refine z_iadd g dX0_extend_44 ?_
  refine z_iastk (k := 173) g kw (by decide) (vp_in_nI (by show _ < ln M w; omega) (by show ln M w < _; omega)) dX0_extend_45 ?_
  rw [nI_clamp (by omega), W2_sw hwl]
  refine z_aload_n g dX0_extend_46 rfl ?_
  refine z_getR g fl_X0_18 k1 (by decide) rfl f2 dX0_extend_47 ?_
  refine z_iload_n g dX0_extend_50 rfl ?_
  refine z_ialdk (k := 174) g kl (by decide) (vp_in_nI (by show _ < ln M l; omega) (by show ln M l < _; omega)) dX0_extend_51 ?_
  rw [nI_clamp (by omega), W2_l]
  refine z_iconst (v := (-1)) g dX0_extend_52 (by decide) ?_
  refine z_icmp_eq (tgt := 67) g dX0_extend_53 (by decide) (fun c_53 => ?_) (fun c_53 => ?_)
  · refine z_aload_n g dX0_extend_67 rfl ?_
    refine z_getR g fl_X0_18 k1 (by decide) rfl f2 dX0_extend_68 ?_
    refine z_iload_n g dX0_extend_71 rfl ?_
    refine z_iload g dX0_extend_72 rfl ?_
    refine z_iastk (k := 174) g kl (by decide) (vp_in_nI (by show _ < ln M l; omega) (by show ln M l < _; omega)) dX0_extend_74 ?_
    rw [nI_clamp (by omega), W2_sl]
    exact z_vret g hrt (by decide) (by decide) dX0_extend_75 ⟨rfl, by first | rw [exS, if_pos (Or.inl c_53)] | rw [exS, if_pos (Or.inr c_64)] | rw [exS, if_neg (fun z => z.elim c_53 (fun y => y c_64))]⟩
  · refine z_iload g dX0_extend_56 rfl ?_
    refine z_aload_n g dX0_extend_58 rfl ?_
    refine z_getR g fl_X0_18 k1 (by decide) rfl f2 dX0_extend_59 ?_
    refine z_iload_n g dX0_extend_62 rfl ?_
    refine z_ialdk (k := 174) g kl (by decide) (vp_in_nI (by show _ < ln M l; omega) (by show ln M l < _; omega)) dX0_extend_63 ?_
    rw [nI_clamp (by omega), W2_l]
    refine z_icmp_ge (tgt := 75) g dX0_extend_64 (by decide) (fun c_64 => ?_) (fun c_64 => ?_)
    · exact z_vret g hrt (by decide) (by decide) dX0_extend_75 ⟨rfl, by first | rw [exS, if_pos (Or.inl c_53)] | rw [exS, if_pos (Or.inr c_64)] | rw [exS, if_neg (fun z => z.elim c_53 (fun y => y c_64))]⟩
    · refine z_aload_n g dX0_extend_67 rfl ?_
      refine z_getR g fl_X0_18 k1 (by decide) rfl f2 dX0_extend_68 ?_
      refine z_iload_n g dX0_extend_71 rfl ?_
      refine z_iload g dX0_extend_72 rfl ?_
      refine z_iastk (k := 174) g kl (by decide) (vp_in_nI (by show _ < ln M l; omega) (by show ln M l < _; omega)) dX0_extend_74 ?_
      rw [nI_clamp (by omega), W2_sl]
      exact z_vret g hrt (by decide) (by decide) dX0_extend_75 ⟨rfl, by first | rw [exS, if_pos (Or.inl c_53)] | rw [exS, if_pos (Or.inr c_64)] | rw [exS, if_neg (fun z => z.elim c_53 (fun y => y c_64))]⟩
set_option maxHeartbeats 4000000 in
set_option maxRecDepth 100000 in
theorem c_addF (E : Ev) (M : Mm) (s c w l : Nat) (k1 : kd M s % 1000 = 1) (f0 : fR M s 0 = some c) (f1 : fR M s 1 = some w) (f2 : fR M s 2 = some l) (kc : kd M c % 1000 = 172) (kw : kd M w % 1000 = 173) (kl : kd M l % 1000 = 174) (lc : ln M c = 4) (lw : ln M w = 16) (ll : ln M l = 16) (S0 R : WL) (hRR : R = afO (fI M c) S0 16) : CT E yX0_addFeature cX0_addFeature 4 none 2 0 0 [.ref s] (W2 M w l S0) (ansV (W2 M w l R)) noX := by
  refine CT.of rfl (Nat.le_of_ble_eq_true rfl) (fun X g hrt hno hE hN hR hI => ?_)
  subst hE
  have hwl : w ≠ l := fun z => by rw [z, kl] at kw; cases kw
  have hcw : c ≠ w := fun z => by rw [z, kw] at kc; cases kc
  have hcl : c ≠ l := fun z => by rw [z, kl] at kc; cases kc
  subst hRR
  have outer : ∀ (m : Nat) (S : WL) (hm : m ≤ 16), (∀ S', afO (fI M c) S m = S' → S' = afO (fI M c) S0 16) → Z X (W2 M w l S) 0 0 3 [(0, .ref s), (1, .int (nI m + (-1)))] [] := by
    intro m
    induction m with
    | zero =>
      intro S hm hf
      have e : S = afO (fI M c) S0 16 := hf S rfl
      rw [e]
      refine z_iload_n g dX0_addFeature_3 rfl ?_
      refine z_if_lt (tgt := 79) g dX0_addFeature_4 (by decide) (fun c_4 => ?_) (fun c_4 => (by exact absurd (by decide) c_4))
      exact z_vret g hrt (by decide) (by decide) dX0_addFeature_79 ⟨rfl, rfl⟩
    | succ m ihm0 =>
      intro S hm hf
      have ihm : ∀ (S2 : WL) (_ : S2 = afI (fI M c) S m 4), Z X (W2 M w l S2) 0 0 3 [(0, .ref s), (1, .int (nI m + (-1)))] [] := fun S2 e => ihm0 S2 (by omega) (fun S' h => hf S' (by rw [← h, e]; rfl))
      rw [pk_m1]
      have inner : ∀ (k j : Nat) (hk : k + j = 4), Z X (W2 M w l (afI (fI M c) S m j)) 0 0 9 [(0, .ref s), (1, .int (nI m)), (2, .int (nI j))] [] := by
        intro k
        induction k using Nat.strongRecOn with
        | _ k ih =>
          intro j hk
          refine z_iload_n g dX0_addFeature_9 rfl ?_
          refine z_iconst (v := 4) g dX0_addFeature_10 (by decide) ?_
          refine z_icmp_ge (tgt := 73) g dX0_addFeature_11 (by decide) (fun c_11 => ?_) (fun c_11 => ?_)
          · rw [show (4 : Int32) = nI 4 from rfl, nI_leI (by omega) (by omega)] at c_11
            rw [show j = 4 by omega]
            refine z_iincm g dX0_addFeature_73 rfl (by rw [hN]; decide) ?_
            refine z_goto (tgt := 3) g dX0_addFeature_76 (by decide) ?_
            exact z_to (ihm (afI (fI M c) S m 4) rfl) ⟨rfl, rfl, trivial⟩
          have h11 : j < 4 := by rw [show (4 : Int32) = nI 4 from rfl, nI_leI (by omega) (by omega)] at c_11; omega
          refine z_iload_n g dX0_addFeature_14 rfl ?_
          refine z_iconst (v := 1) g dX0_addFeature_15 (by decide) ?_
          refine z_iload_n g dX0_addFeature_16 rfl ?_
          refine z_ishl g dX0_addFeature_17 ?_
          refine z_iand g dX0_addFeature_18 ?_
          refine z_if_ne (tgt := 26) g dX0_addFeature_19 (by decide) (fun c_19 => ?_) (fun c_19 => ?_)
          · refine z_iconst (v := 0) g dX0_addFeature_26 (by decide) ?_
            refine z_istore_n g dX0_addFeature_27 (by rw [hN]; decide) ?_
            refine z_iload_n g dX0_addFeature_28 rfl ?_
            refine z_if_eq (tgt := 67) g dX0_addFeature_29 (by decide) (fun c_29 => ?_) (fun c_29 => ?_)
            · refine z_iinc1 g dX0_addFeature_67 rfl (by rw [hN]; decide) ?_
              refine z_goto (tgt := 9) g dX0_addFeature_70 (by decide) ?_
              rw [nI_s]
              have hs := ih (k - 1) (by omega) (j + 1) (by omega)
              first
                | (rw [show afI (fI M c) S m (j + 1) = exS (afI (fI M c) S m j) m (m + 2 ^ j) (fI M c j) from if_pos ⟨c19', c_39, c_48⟩] at hs
                   exact z_to hs ⟨rfl, rfl, rfl, trivial⟩)
                | (rw [show afI (fI M c) S m (j + 1) = afI (fI M c) S m j from if_neg (fun z => by first | exact c_19 z.1 | exact z.2.1 c_39 | exact z.2.2 c_48)] at hs
                   exact z_to hs ⟨rfl, rfl, rfl, trivial⟩)
                | exact absurd c_29 (by decide)
            · refine z_aload_n g dX0_addFeature_32 rfl ?_
              refine z_getR g fl_X0_9 k1 (by decide) rfl f0 dX0_addFeature_33 ?_
              refine z_iload_n g dX0_addFeature_36 rfl ?_
              refine z_ialdk (k := 172) g kc (by decide) (vp_in_nI (by show _ < ln M c; omega) (by show ln M c < _; omega)) dX0_addFeature_37 ?_
              rw [nI_clamp (by omega), W2_o hcw hcl]
              refine z_iconst (v := (-1)) g dX0_addFeature_38 (by decide) ?_
              refine z_icmp_eq (tgt := 67) g dX0_addFeature_39 (by decide) (fun c_39 => ?_) (fun c_39 => ?_)
              · refine z_iinc1 g dX0_addFeature_67 rfl (by rw [hN]; decide) ?_
                refine z_goto (tgt := 9) g dX0_addFeature_70 (by decide) ?_
                rw [nI_s]
                have hs := ih (k - 1) (by omega) (j + 1) (by omega)
                first
                  | (rw [show afI (fI M c) S m (j + 1) = exS (afI (fI M c) S m j) m (m + 2 ^ j) (fI M c j) from if_pos ⟨c19', c_39, c_48⟩] at hs
                     exact z_to hs ⟨rfl, rfl, rfl, trivial⟩)
                  | (rw [show afI (fI M c) S m (j + 1) = afI (fI M c) S m j from if_neg (fun z => by first | exact c_19 z.1 | exact z.2.1 c_39 | exact z.2.2 c_48)] at hs
                     exact z_to hs ⟨rfl, rfl, rfl, trivial⟩)
                  | exact absurd c_29 (by decide)
              · refine z_aload_n g dX0_addFeature_42 rfl ?_
                refine z_getR g fl_X0_15 k1 (by decide) rfl f1 dX0_addFeature_43 ?_
                refine z_iload_n g dX0_addFeature_46 rfl ?_
                refine z_ialdk (k := 173) g kw (by decide) (vp_in_nI (by show _ < ln M w; omega) (by show ln M w < _; omega)) dX0_addFeature_47 ?_
                rw [nI_clamp (by omega), W2_w hwl]
                refine z_if_le (tgt := 67) g dX0_addFeature_48 (by decide) (fun c_48 => ?_) (fun c_48 => ?_)
                · refine z_iinc1 g dX0_addFeature_67 rfl (by rw [hN]; decide) ?_
                  refine z_goto (tgt := 9) g dX0_addFeature_70 (by decide) ?_
                  rw [nI_s]
                  have hs := ih (k - 1) (by omega) (j + 1) (by omega)
                  first
                    | (rw [show afI (fI M c) S m (j + 1) = exS (afI (fI M c) S m j) m (m + 2 ^ j) (fI M c j) from if_pos ⟨c19', c_39, c_48⟩] at hs
                       exact z_to hs ⟨rfl, rfl, rfl, trivial⟩)
                    | (rw [show afI (fI M c) S m (j + 1) = afI (fI M c) S m j from if_neg (fun z => by first | exact c_19 z.1 | exact z.2.1 c_39 | exact z.2.2 c_48)] at hs
                       exact z_to hs ⟨rfl, rfl, rfl, trivial⟩)
                    | exact absurd c_29 (by decide)
                · refine z_aload_n g dX0_addFeature_51 rfl ?_
                  refine z_iload_n g dX0_addFeature_52 rfl ?_
                  refine z_iload_n g dX0_addFeature_53 rfl ?_
                  refine z_iconst (v := 1) g dX0_addFeature_54 (by decide) ?_
                  refine z_iload_n g dX0_addFeature_55 rfl ?_
                  refine z_ishl g dX0_addFeature_56 ?_
                  refine z_ior g dX0_addFeature_57 ?_
                  refine z_aload_n g dX0_addFeature_58 rfl ?_
                  refine z_getR g fl_X0_9 k1 (by decide) rfl f0 dX0_addFeature_59 ?_
                  refine z_iload_n g dX0_addFeature_62 rfl ?_
                  refine z_ialdk (k := 172) g kc (by decide) (vp_in_nI (by show _ < ln M c; omega) (by show ln M c < _; omega)) dX0_addFeature_63 ?_
                  rw [nI_clamp (by omega), W2_o hcw hcl]
                  have c19' : nI m &&& 1 <<< (nI j &&& 31) = 0 := by first | exact c_19 | exact absurd rfl c_29
                  obtain ⟨o1, o2⟩ := af_or m (by omega) j h11 c19'
                  rw [o1]
                  refine z_callV g _ _ cv_X0_21 (c_ext _ M s c w l k1 f0 f1 f2 kc kw kl lc lw ll (afI (fI M c) S m j) m (m + 2 ^ j) (by omega) o2 (fI M c j)) k1 (by decide) rfl (by rw [hR]; decide) (by rw [hR]; decide) (by rw [hR]; decide) (Nat.le_of_ble_eq_true rfl) rfl dX0_addFeature_64 (fun _ _ h => False.elim h) (fun r_64 M_64 h_64 => ?_)
                  obtain ⟨rfl, rfl⟩ := h_64
                  refine z_iinc1 g dX0_addFeature_67 rfl (by rw [hN]; decide) ?_
                  refine z_goto (tgt := 9) g dX0_addFeature_70 (by decide) ?_
                  rw [nI_s]
                  have hs := ih (k - 1) (by omega) (j + 1) (by omega)
                  first
                    | (rw [show afI (fI M c) S m (j + 1) = exS (afI (fI M c) S m j) m (m + 2 ^ j) (fI M c j) from if_pos ⟨c19', c_39, c_48⟩] at hs
                       exact z_to hs ⟨rfl, rfl, rfl, trivial⟩)
                    | (rw [show afI (fI M c) S m (j + 1) = afI (fI M c) S m j from if_neg (fun z => by first | exact c_19 z.1 | exact z.2.1 c_39 | exact z.2.2 c_48)] at hs
                       exact z_to hs ⟨rfl, rfl, rfl, trivial⟩)
                    | exact absurd c_29 (by decide)
          · refine z_iconst (v := 1) g dX0_addFeature_22 (by decide) ?_
            refine z_goto (tgt := 27) g dX0_addFeature_23 (by decide) ?_
            refine z_istore_n g dX0_addFeature_27 (by rw [hN]; decide) ?_
            refine z_iload_n g dX0_addFeature_28 rfl ?_
            refine z_if_eq (tgt := 67) g dX0_addFeature_29 (by decide) (fun c_29 => ?_) (fun c_29 => ?_)
            · refine z_iinc1 g dX0_addFeature_67 rfl (by rw [hN]; decide) ?_
              refine z_goto (tgt := 9) g dX0_addFeature_70 (by decide) ?_
              rw [nI_s]
              have hs := ih (k - 1) (by omega) (j + 1) (by omega)
              first
                | (rw [show afI (fI M c) S m (j + 1) = exS (afI (fI M c) S m j) m (m + 2 ^ j) (fI M c j) from if_pos ⟨c19', c_39, c_48⟩] at hs
                   exact z_to hs ⟨rfl, rfl, rfl, trivial⟩)
                | (rw [show afI (fI M c) S m (j + 1) = afI (fI M c) S m j from if_neg (fun z => by first | exact c_19 z.1 | exact z.2.1 c_39 | exact z.2.2 c_48)] at hs
                   exact z_to hs ⟨rfl, rfl, rfl, trivial⟩)
                | exact absurd c_29 (by decide)
            · refine z_aload_n g dX0_addFeature_32 rfl ?_
              refine z_getR g fl_X0_9 k1 (by decide) rfl f0 dX0_addFeature_33 ?_
              refine z_iload_n g dX0_addFeature_36 rfl ?_
              refine z_ialdk (k := 172) g kc (by decide) (vp_in_nI (by show _ < ln M c; omega) (by show ln M c < _; omega)) dX0_addFeature_37 ?_
              rw [nI_clamp (by omega), W2_o hcw hcl]
              refine z_iconst (v := (-1)) g dX0_addFeature_38 (by decide) ?_
              refine z_icmp_eq (tgt := 67) g dX0_addFeature_39 (by decide) (fun c_39 => ?_) (fun c_39 => ?_)
              · refine z_iinc1 g dX0_addFeature_67 rfl (by rw [hN]; decide) ?_
                refine z_goto (tgt := 9) g dX0_addFeature_70 (by decide) ?_
                rw [nI_s]
                have hs := ih (k - 1) (by omega) (j + 1) (by omega)
                first
                  | (rw [show afI (fI M c) S m (j + 1) = exS (afI (fI M c) S m j) m (m + 2 ^ j) (fI M c j) from if_pos ⟨c19', c_39, c_48⟩] at hs
                     exact z_to hs ⟨rfl, rfl, rfl, trivial⟩)
                  | (rw [show afI (fI M c) S m (j + 1) = afI (fI M c) S m j from if_neg (fun z => by first | exact c_19 z.1 | exact z.2.1 c_39 | exact z.2.2 c_48)] at hs
                     exact z_to hs ⟨rfl, rfl, rfl, trivial⟩)
                  | exact absurd c_29 (by decide)
              · refine z_aload_n g dX0_addFeature_42 rfl ?_
                refine z_getR g fl_X0_15 k1 (by decide) rfl f1 dX0_addFeature_43 ?_
                refine z_iload_n g dX0_addFeature_46 rfl ?_
                refine z_ialdk (k := 173) g kw (by decide) (vp_in_nI (by show _ < ln M w; omega) (by show ln M w < _; omega)) dX0_addFeature_47 ?_
                rw [nI_clamp (by omega), W2_w hwl]
                refine z_if_le (tgt := 67) g dX0_addFeature_48 (by decide) (fun c_48 => ?_) (fun c_48 => ?_)
                · refine z_iinc1 g dX0_addFeature_67 rfl (by rw [hN]; decide) ?_
                  refine z_goto (tgt := 9) g dX0_addFeature_70 (by decide) ?_
                  rw [nI_s]
                  have hs := ih (k - 1) (by omega) (j + 1) (by omega)
                  first
                    | (rw [show afI (fI M c) S m (j + 1) = exS (afI (fI M c) S m j) m (m + 2 ^ j) (fI M c j) from if_pos ⟨c19', c_39, c_48⟩] at hs
                       exact z_to hs ⟨rfl, rfl, rfl, trivial⟩)
                    | (rw [show afI (fI M c) S m (j + 1) = afI (fI M c) S m j from if_neg (fun z => by first | exact c_19 z.1 | exact z.2.1 c_39 | exact z.2.2 c_48)] at hs
                       exact z_to hs ⟨rfl, rfl, rfl, trivial⟩)
                    | exact absurd c_29 (by decide)
                · refine z_aload_n g dX0_addFeature_51 rfl ?_
                  refine z_iload_n g dX0_addFeature_52 rfl ?_
                  refine z_iload_n g dX0_addFeature_53 rfl ?_
                  refine z_iconst (v := 1) g dX0_addFeature_54 (by decide) ?_
                  refine z_iload_n g dX0_addFeature_55 rfl ?_
                  refine z_ishl g dX0_addFeature_56 ?_
                  refine z_ior g dX0_addFeature_57 ?_
                  refine z_aload_n g dX0_addFeature_58 rfl ?_
                  refine z_getR g fl_X0_9 k1 (by decide) rfl f0 dX0_addFeature_59 ?_
                  refine z_iload_n g dX0_addFeature_62 rfl ?_
                  refine z_ialdk (k := 172) g kc (by decide) (vp_in_nI (by show _ < ln M c; omega) (by show ln M c < _; omega)) dX0_addFeature_63 ?_
                  rw [nI_clamp (by omega), W2_o hcw hcl]
                  have c19' : nI m &&& 1 <<< (nI j &&& 31) = 0 := by first | exact c_19 | exact absurd rfl c_29
                  obtain ⟨o1, o2⟩ := af_or m (by omega) j h11 c19'
                  rw [o1]
                  refine z_callV g _ _ cv_X0_21 (c_ext _ M s c w l k1 f0 f1 f2 kc kw kl lc lw ll (afI (fI M c) S m j) m (m + 2 ^ j) (by omega) o2 (fI M c j)) k1 (by decide) rfl (by rw [hR]; decide) (by rw [hR]; decide) (by rw [hR]; decide) (Nat.le_of_ble_eq_true rfl) rfl dX0_addFeature_64 (fun _ _ h => False.elim h) (fun r_64 M_64 h_64 => ?_)
                  obtain ⟨rfl, rfl⟩ := h_64
                  refine z_iinc1 g dX0_addFeature_67 rfl (by rw [hN]; decide) ?_
                  refine z_goto (tgt := 9) g dX0_addFeature_70 (by decide) ?_
                  rw [nI_s]
                  have hs := ih (k - 1) (by omega) (j + 1) (by omega)
                  first
                    | (rw [show afI (fI M c) S m (j + 1) = exS (afI (fI M c) S m j) m (m + 2 ^ j) (fI M c j) from if_pos ⟨c19', c_39, c_48⟩] at hs
                       exact z_to hs ⟨rfl, rfl, rfl, trivial⟩)
                    | (rw [show afI (fI M c) S m (j + 1) = afI (fI M c) S m j from if_neg (fun z => by first | exact c_19 z.1 | exact z.2.1 c_39 | exact z.2.2 c_48)] at hs
                       exact z_to hs ⟨rfl, rfl, rfl, trivial⟩)
                    | exact absurd c_29 (by decide)
      refine z_iload_n g dX0_addFeature_3 rfl ?_
      refine z_if_lt (tgt := 79) g dX0_addFeature_4 (by decide) (fun c_4 => (by exact absurd c_4 (nI_pos (by omega)))) (fun c_4 => ?_)
      refine z_iconst (v := 0) g dX0_addFeature_7 (by decide) ?_
      refine z_istore_n g dX0_addFeature_8 (by rw [hN]; decide) ?_
      exact z_to (inner 4 0 rfl) ⟨rfl, rfl, rfl, trivial⟩
  refine z_bipush (v := 15) g dX0_addFeature_0 (by decide) ?_
  refine z_istore_n g dX0_addFeature_2 (by rw [hN]; decide) ?_
  exact z_to (outer 16 S0 (Nat.le_refl _) (fun S h => h.symm)) ⟨rfl, rfl, trivial⟩
set_option maxHeartbeats 4000000 in
set_option maxRecDepth 100000 in
theorem c_begin (E : Ev) (M : Mm) (s c w l : Nat) (k1 : kd M s % 1000 = 1) (f0 : fR M s 0 = some c) (f1 : fR M s 1 = some w) (f2 : fR M s 2 = some l) (kc : kd M c % 1000 = 172) (kw : kd M w % 1000 = 173) (kl : kd M l % 1000 = 174) (lc : ln M c = 4) (lw : ln M w = 16) (ll : ln M l = 16) : CT E yX0_begin cX0_begin 2 none 1 0 0 [.ref s] M ((fun r M' => ∃ S : WL, r = none ∧ M' = W2 M w l S ∧ ∀ i, i < 16 → S.1 i = (if i = 0 then 1 else 0) ∧ S.2 i = (if i = 0 then 0 else -1))) noX := by
  refine CT.of rfl (Nat.le_of_ble_eq_true rfl) (fun X g hrt hno hE hN hR hI => ?_)
  subst hE
  have hwl : w ≠ l := fun z => by rw [z, kl] at kw; cases kw
  have hcw : c ≠ w := fun z => by rw [z, kw] at kc; cases kc
  have hcl : c ≠ l := fun z => by rw [z, kl] at kc; cases kc
  have loop : ∀ (k j : Nat) (S : WL) (hk : k + j = 16) (hS : ∀ i, i < j → S.1 i = (if i = 0 then 1 else 0) ∧ S.2 i = (if i = 0 then 0 else -1)), Z X (W2 M w l S) 0 0 2 [(0, .ref s), (1, .int (nI j))] [] := by
    intro k
    induction k using Nat.strongRecOn with
    | _ k ih =>
      intro j S hk hS
      refine z_iload_n g dX0_begin_2 rfl ?_
      refine z_bipush (v := 16) g dX0_begin_3 (by decide) ?_
      refine z_icmp_ge (tgt := 44) g dX0_begin_5 (by decide) (fun c_5 => ?_) (fun c_5 => ?_)
      · rw [show (16 : Int32) = nI 16 from rfl, nI_leI (by omega) (by omega)] at c_5
        exact z_vret g hrt (by decide) (by decide) dX0_begin_44 ⟨S, rfl, rfl, fun i hi => hS i (by omega)⟩
      have h5 : j < 16 := by rw [show (16 : Int32) = nI 16 from rfl, nI_leI (by omega) (by omega)] at c_5; omega
      by_cases hj0 : j = 0
      · skip
        refine z_aload_n g dX0_begin_8 rfl ?_
        refine z_getR g fl_X0_15 k1 (by decide) rfl f1 dX0_begin_9 ?_
        refine z_iload_n g dX0_begin_12 rfl ?_
        refine z_iload_n g dX0_begin_13 rfl ?_
        refine z_if_ne (tgt := 21) g dX0_begin_14 (by decide) (fun c_14 => (by exact absurd (by rw [hj0]; rfl) c_14)) (fun c_14 => ?_)
        refine z_iconst (v := 1) g dX0_begin_17 (by decide) ?_
        refine z_goto (tgt := 22) g dX0_begin_18 (by decide) ?_
        refine z_iastk (k := 173) g kw (by decide) (vp_in_nI (by show _ < ln M w; omega) (by show ln M w < _; omega)) dX0_begin_22 ?_
        rw [nI_clamp (by omega), W2_sw hwl]
        refine z_aload_n g dX0_begin_23 rfl ?_
        refine z_getR g fl_X0_18 k1 (by decide) rfl f2 dX0_begin_24 ?_
        refine z_iload_n g dX0_begin_27 rfl ?_
        refine z_iload_n g dX0_begin_28 rfl ?_
        refine z_if_ne (tgt := 36) g dX0_begin_29 (by decide) (fun c_29 => (by exact absurd (by rw [hj0]; rfl) c_29)) (fun c_29 => ?_)
        refine z_iconst (v := 0) g dX0_begin_32 (by decide) ?_
        refine z_goto (tgt := 37) g dX0_begin_33 (by decide) ?_
        refine z_iastk (k := 174) g kl (by decide) (vp_in_nI (by show _ < ln M l; omega) (by show ln M l < _; omega)) dX0_begin_37 ?_
        rw [nI_clamp (by omega), W2_sl]
        refine z_iinc1 g dX0_begin_38 rfl (by rw [hN]; decide) ?_
        refine z_goto (tgt := 2) g dX0_begin_41 (by decide) ?_
        rw [nI_s]
        refine z_to (ih (k - 1) (by omega) (j + 1) _ (by omega) (fun i hi => ?_)) ⟨rfl, rfl, trivial⟩
        dsimp only [pu]
        by_cases hij : i = j
        · rw [if_pos hij, if_pos hij, hij]
          first | rw [if_pos hj0, if_pos hj0]; exact ⟨rfl, rfl⟩ | rw [if_neg hj0, if_neg hj0]; exact ⟨rfl, rfl⟩
        · rw [if_neg hij, if_neg hij]; exact hS i (by omega)
      · skip
        refine z_aload_n g dX0_begin_8 rfl ?_
        refine z_getR g fl_X0_15 k1 (by decide) rfl f1 dX0_begin_9 ?_
        refine z_iload_n g dX0_begin_12 rfl ?_
        refine z_iload_n g dX0_begin_13 rfl ?_
        refine z_if_ne (tgt := 21) g dX0_begin_14 (by decide) (fun c_14 => ?_) (fun c_14 => (by exact absurd ((nI_eq (b := 0) (by omega) (by decide)).mp c_14) hj0))
        refine z_iconst (v := 0) g dX0_begin_21 (by decide) ?_
        refine z_iastk (k := 173) g kw (by decide) (vp_in_nI (by show _ < ln M w; omega) (by show ln M w < _; omega)) dX0_begin_22 ?_
        rw [nI_clamp (by omega), W2_sw hwl]
        refine z_aload_n g dX0_begin_23 rfl ?_
        refine z_getR g fl_X0_18 k1 (by decide) rfl f2 dX0_begin_24 ?_
        refine z_iload_n g dX0_begin_27 rfl ?_
        refine z_iload_n g dX0_begin_28 rfl ?_
        refine z_if_ne (tgt := 36) g dX0_begin_29 (by decide) (fun c_29 => ?_) (fun c_29 => (by exact absurd ((nI_eq (b := 0) (by omega) (by decide)).mp c_29) hj0))
        refine z_iconst (v := (-1)) g dX0_begin_36 (by decide) ?_
        refine z_iastk (k := 174) g kl (by decide) (vp_in_nI (by show _ < ln M l; omega) (by show ln M l < _; omega)) dX0_begin_37 ?_
        rw [nI_clamp (by omega), W2_sl]
        refine z_iinc1 g dX0_begin_38 rfl (by rw [hN]; decide) ?_
        refine z_goto (tgt := 2) g dX0_begin_41 (by decide) ?_
        rw [nI_s]
        refine z_to (ih (k - 1) (by omega) (j + 1) _ (by omega) (fun i hi => ?_)) ⟨rfl, rfl, trivial⟩
        dsimp only [pu]
        by_cases hij : i = j
        · rw [if_pos hij, if_pos hij, hij]
          first | rw [if_pos hj0, if_pos hj0]; exact ⟨rfl, rfl⟩ | rw [if_neg hj0, if_neg hj0]; exact ⟨rfl, rfl⟩
        · rw [if_neg hij, if_neg hij]; exact hS i (by omega)
  refine z_iconst (v := 0) g dX0_begin_0 (by decide) ?_
  refine z_istore_n g dX0_begin_1 (by rw [hN]; decide) ?_
  rw [← W2_self M w l]
  exact z_to (loop 16 0 _ rfl (fun i hi => absurd hi (Nat.not_lt_zero i))) ⟨rfl, rfl, trivial⟩
set_option maxHeartbeats 4000000 in
set_option maxRecDepth 100000 in
theorem c_lFor (E : Ev) (M : Mm) (s c w l : Nat) (k1 : kd M s % 1000 = 1) (f0 : fR M s 0 = some c) (f1 : fR M s 1 = some w) (f2 : fR M s 2 = some l) (kc : kd M c % 1000 = 172) (kw : kd M w % 1000 = 173) (kl : kd M l % 1000 = 174) (lc : ln M c = 4) (lw : ln M w = 16) (ll : ln M l = 16) (n : Nat) (hn : n ≤ 4) : CT E yX0_leastFor cX0_leastFor 3 (some .int) 2 0 0 [.ref s, .int (nI n)] M (ansI (fI M l (2 ^ n - 1)) M) noX := by
  refine CT.of rfl (Nat.le_of_ble_eq_true rfl) (fun X g hrt hno hE hN hR hI => ?_)
  subst hE
  have h5 : 2 ^ n - 1 < 16 := by rcases (show n = 0 ∨ n = 1 ∨ n = 2 ∨ n = 3 ∨ n = 4 by omega) with rfl | rfl | rfl | rfl | rfl <;> decide
  refine z_iload_n g dX0_leastFor_0 rfl ?_
  refine z_callS g _ _ cs_X0_25 (c_allOf _ M n hn) rfl (by rw [hR]; decide) (by rw [hR]; decide) (by rw [hR]; decide) (Nat.le_of_ble_eq_true rfl) rfl dX0_leastFor_1 (fun _ _ h => False.elim h) (fun r_1 M_1 h_1 => ?_)
  obtain ⟨rfl, rfl⟩ := h_1
  refine z_istore_n g dX0_leastFor_4 (by rw [hN]; decide) ?_
  refine z_iload_n g dX0_leastFor_5 rfl ?_
  refine z_if_lt (tgt := 27) g dX0_leastFor_6 (by decide) (fun c_6 => (by exact absurd c_6 (nI_pos (by omega)))) (fun c_6 => ?_)
  refine z_iload_n g dX0_leastFor_9 rfl ?_
  refine z_aload_n g dX0_leastFor_10 rfl ?_
  refine z_getR g fl_X0_18 k1 (by decide) rfl f2 dX0_leastFor_11 ?_
  refine z_alenIk g kl (by decide) dX0_leastFor_14 ?_
  refine z_icmp_ge (tgt := 27) g dX0_leastFor_15 (by decide) (fun c_15 => (by rw [ll, nI_leI (by omega) (by omega)] at c_15; omega)) (fun c_15 => ?_)
  refine z_aload_n g dX0_leastFor_18 rfl ?_
  refine z_getR g fl_X0_18 k1 (by decide) rfl f2 dX0_leastFor_19 ?_
  refine z_iload_n g dX0_leastFor_22 rfl ?_
  refine z_ialdk (k := 174) g kl (by decide) (vp_in_nI (by omega) (by omega)) dX0_leastFor_23 ?_
  rw [nI_clamp (by omega)]
  refine z_goto (tgt := 28) g dX0_leastFor_24 (by decide) ?_
  exact z_iret g hrt rfl (by decide) (by decide) dX0_leastFor_28 ⟨rfl, rfl⟩
set_option maxHeartbeats 4000000 in
set_option maxRecDepth 100000 in
theorem c_wFor (E : Ev) (M : Mm) (s c w l : Nat) (k1 : kd M s % 1000 = 1) (f0 : fR M s 0 = some c) (f1 : fR M s 1 = some w) (f2 : fR M s 2 = some l) (kc : kd M c % 1000 = 172) (kw : kd M w % 1000 = 173) (kl : kd M l % 1000 = 174) (lc : ln M c = 4) (lw : ln M w = 16) (ll : ln M l = 16) (n : Nat) (hn : n ≤ 4) : CT E yX0_waysFor cX0_waysFor 3 (some .int) 2 0 0 [.ref s, .int (nI n)] M (ansI (fI M w (2 ^ n - 1)) M) noX := by
  refine CT.of rfl (Nat.le_of_ble_eq_true rfl) (fun X g hrt hno hE hN hR hI => ?_)
  subst hE
  have h5 : 2 ^ n - 1 < 16 := by rcases (show n = 0 ∨ n = 1 ∨ n = 2 ∨ n = 3 ∨ n = 4 by omega) with rfl | rfl | rfl | rfl | rfl <;> decide
  refine z_iload_n g dX0_waysFor_0 rfl ?_
  refine z_callS g _ _ cs_X0_25 (c_allOf _ M n hn) rfl (by rw [hR]; decide) (by rw [hR]; decide) (by rw [hR]; decide) (Nat.le_of_ble_eq_true rfl) rfl dX0_waysFor_1 (fun _ _ h => False.elim h) (fun r_1 M_1 h_1 => ?_)
  obtain ⟨rfl, rfl⟩ := h_1
  refine z_istore_n g dX0_waysFor_4 (by rw [hN]; decide) ?_
  refine z_iload_n g dX0_waysFor_5 rfl ?_
  refine z_if_lt (tgt := 27) g dX0_waysFor_6 (by decide) (fun c_6 => (by exact absurd c_6 (nI_pos (by omega)))) (fun c_6 => ?_)
  refine z_iload_n g dX0_waysFor_9 rfl ?_
  refine z_aload_n g dX0_waysFor_10 rfl ?_
  refine z_getR g fl_X0_15 k1 (by decide) rfl f1 dX0_waysFor_11 ?_
  refine z_alenIk g kw (by decide) dX0_waysFor_14 ?_
  refine z_icmp_ge (tgt := 27) g dX0_waysFor_15 (by decide) (fun c_15 => (by rw [lw, nI_leI (by omega) (by omega)] at c_15; omega)) (fun c_15 => ?_)
  refine z_aload_n g dX0_waysFor_18 rfl ?_
  refine z_getR g fl_X0_15 k1 (by decide) rfl f1 dX0_waysFor_19 ?_
  refine z_iload_n g dX0_waysFor_22 rfl ?_
  refine z_ialdk (k := 173) g kw (by decide) (vp_in_nI (by omega) (by omega)) dX0_waysFor_23 ?_
  rw [nI_clamp (by omega)]
  refine z_goto (tgt := 28) g dX0_waysFor_24 (by decide) ?_
  exact z_iret g hrt rfl (by decide) (by decide) dX0_waysFor_28 ⟨rfl, rfl⟩
