/-! ===== the model: letters, laws, FORMs (printed by gen/mod_d3.py) ===== -/
set_option maxHeartbeats 4000000 in
set_option maxRecDepth 100000 in
theorem n_lays (E : Ev) {A : Nat → Nat} {m : Nat} {S : Ms} (M : Mm) (hM : RM A m S M) (r : List Nat) (hr : LW 12 r) : CT E yX11_lays cX11_lays 6 none 1 0 0 [.ref m, .long (lN (lv r))] M ((fun r' M' => r' = none ∧ SE A m M M' ∧ Lt A m M' r.reverse)) noX := by
  refine CT.of rfl (Nat.le_of_ble_eq_true rfl) (fun X g hrt hno hE hN hR hI => ?_)
  subst hE
  have third : ∀ (s t : List Nat) (M1 : Mm) (hu : s.reverse ++ t = r.reverse) (hs : LW 12 s) (se : SE A m M M1) (hf : fI M1 m 62 = nI r.reverse.length) (ht : ∀ i y, s.length ≤ i → r.reverse[i]? = some y → fI M1 (A 60) i = nI y), Z X M1 0 0 42 [(0, .ref m), (3, .long (lN (lv s))), (5, .int (nI s.length + (-1)))] [] := by
    intro s
    induction s with
    | nil =>
      intro t M1 hu hs se hf ht
      refine z_iload g dX11_lays_42 rfl ?_
      refine z_if_lt (tgt := 72) g dX11_lays_44 (by decide) (fun c_44 => ?_) (fun c_44 => (by exact absurd (by decide) c_44))
      exact z_vret g hrt (by decide) (by decide) dX11_lays_72 ⟨rfl, se, hf, fun i y h => ht i y (Nat.zero_le _) h⟩
    | cons x s ihs =>
      intro t M1 hu hs se hf ht
      have hM1 := hM.SE se
      have hx := hs.2 x List.mem_cons_self
      have hls : lv (x :: s) < 2 ^ 63 := hs.lt63 (Nat.le_refl _)
      have hl12 : s.length < 12 := by have := hs.1; simp at this; omega
      rw [show nI (x :: s).length + (-1) = nI s.length from pk_m1 s.length]
      refine z_iload g dX11_lays_42 rfl ?_
      refine z_if_lt (tgt := 72) g dX11_lays_44 (by decide) (fun c_44 => (by exact absurd c_44 (nI_pos (by omega)))) (fun c_44 => ?_)
      refine z_aload_n g dX11_lays_47 rfl ?_
      refine z_getR g fl_X11_165 hM1.k0 (by decide) rfl (hM1.ref (k := 60) (by decide)) dX11_lays_48 ?_
      refine z_iload g dX11_lays_51 rfl ?_
      refine z_lload_n g dX11_lays_53 rfl ?_
      refine z_ldc2 g dX11_lays_54 kc_X11_193 ?_
      refine z_lrem g dX11_lays_57 (by decide) ?_
      rw [rem27 hls, lv_mod hx.2]
      refine z_l2i g dX11_lays_58 ?_
      rw [l2i_n]
      refine z_iastk g (hM1.kA1 (k := 60) (by decide)) (by decide) (vp_in_nI (by rw [hM1.lnI (k := 60) (by decide)]; show _ < 24; omega) (by rw [hM1.lnI (k := 60) (by decide)]; decide)) dX11_lays_59 ?_
      rw [nI_clamp (by omega)]
      refine z_lload_n g dX11_lays_60 rfl ?_
      refine z_ldc2 g dX11_lays_61 kc_X11_193 ?_
      refine z_ldiv g dX11_lays_64 (by decide) ?_
      rw [div27 hls, lv_div hx.2]
      refine z_lstore_n g dX11_lays_65 (by rw [hN]; decide) ?_
      refine z_iincm g dX11_lays_66 rfl (by rw [hN]; decide) ?_
      refine z_goto (tgt := 42) g dX11_lays_69 (by decide) ?_
      refine z_to (ihs (x :: t) _ (by rw [← hu]; simp) (LW.mono (LW.tl (n := 11) hs) (by decide)) (se.tr (SE.sI60 (Or.inl rfl))) (by rw [fI_sI, if_neg (fun z => hM1.nem (k := 60) (by decide) z.1)]; exact hf) (fun i y h1 h2 => ?_)) ⟨rfl, rfl, rfl, trivial⟩
      rw [fI_sI]
      by_cases hi : i = s.length
      · rw [if_pos ⟨rfl, hi⟩]
        rw [hi, ← hu] at h2
        simp at h2
        rw [h2]
      · rw [if_neg (fun z => hi z.2)]
        exact ht i y (by simp; omega) h2
  have second : ∀ (M1 : Mm) (se : SE A m M M1) (hf : fI M1 m 62 = nI r.length), Z X M1 0 0 32 [(0, .ref m), (1, .long (lN (lv r)))] [] := by
    intro M1 se hf
    have hM1 := hM.SE se
    refine z_lload_n g dX11_lays_32 rfl ?_
    refine z_lstore_n g dX11_lays_33 (by rw [hN]; decide) ?_
    refine z_aload_n g dX11_lays_34 rfl ?_
    refine z_getI g fl_X11_195 hM1.k0 (by decide) rfl dX11_lays_35 ?_
    rw [hf]
    refine z_iconst (v := 1) g dX11_lays_38 (by decide) ?_
    refine z_isub g dX11_lays_39 ?_
    rw [show nI r.length - 1 = nI r.length + (-1) from Int32.sub_eq_add_neg _ _]
    refine z_istore g dX11_lays_40 (by rw [hN]; decide) ?_
    exact z_to (third r [] M1 (List.append_nil _) hr se (by rw [List.length_reverse]; exact hf) (fun i y h1 h2 => by rw [List.getElem?_eq_none (by rw [List.length_reverse]; exact h1)] at h2; cases h2)) ⟨rfl, rfl, rfl, trivial⟩
  have first_ : ∀ (k j : Nat) (s : List Nat) (M1 : Mm) (hk : k = s.length) (hj : j + s.length = r.length) (hs : LW 12 s) (se : SE A m M M1) (hf : fI M1 m 62 = nI j), Z X M1 0 0 7 [(0, .ref m), (1, .long (lN (lv r))), (3, .long (lN (lv s)))] [] := by
    intro k
    induction k using Nat.strongRecOn with
    | _ k ih =>
      intro j s M1 hk hj hs se hf
      have hM1 := hM.SE se
      refine z_lload_n g dX11_lays_7 rfl ?_
      refine z_lconst (v := 0) g dX11_lays_8 (by decide) ?_
      refine z_lcmp g dX11_lays_9 ?_
      refine z_if_le (tgt := 32) g dX11_lays_10 (by decide) (fun c_10 => ?_) (fun c_10 => ?_)
      · have h0 : s = [] := (lv_z hs).mp ((c0_le (hs.lt63 (Nat.le_refl _))).mp c_10)
        rw [h0, List.length_nil, Nat.add_zero] at hj
        exact z_to (second M1 se (by rw [hf]; rw [hj])) ⟨rfl, rfl, trivial⟩
      obtain ⟨x, s, rfl⟩ : ∃ x s', s = x :: s' := by
        cases s with
        | nil => exact absurd ((c0_le (m := lv []) (by decide)).mpr rfl) c_10
        | cons x s => exact ⟨x, s, rfl⟩
      have hx := hs.2 x List.mem_cons_self
      have hls : lv (x :: s) < 2 ^ 63 := hs.lt63 (Nat.le_refl _)
      refine z_aload_n g dX11_lays_13 rfl ?_
      refine z_dup g dX11_lays_14 rfl ?_
      refine z_getI g fl_X11_195 hM1.k0 (by decide) rfl dX11_lays_15 ?_
      rw [hf]
      refine z_iconst (v := 1) g dX11_lays_18 (by decide) ?_
      refine z_iadd g dX11_lays_19 ?_
      refine z_putI g fp_X11_195 hM1.k0 (by decide) rfl (fun h => nomatch h) dX11_lays_20 ?_
      refine z_lload_n g dX11_lays_23 rfl ?_
      refine z_ldc2 g dX11_lays_24 kc_X11_193 ?_
      refine z_ldiv g dX11_lays_27 (by decide) ?_
      rw [div27 hls, lv_div hx.2]
      refine z_lstore_n g dX11_lays_28 (by rw [hN]; decide) ?_
      refine z_goto (tgt := 7) g dX11_lays_29 (by decide) ?_
      simp only [List.length_cons] at hj
      refine z_to (ih s.length (by rw [hk]; simp) (j + 1) s _ rfl (by omega) (LW.mono (LW.tl (n := 11) hs) (by decide)) (se.tr (SE.sIm (Or.inl rfl))) (by rw [fI_sI, if_pos ⟨rfl, rfl⟩, nI_s])) ⟨rfl, rfl, rfl, trivial⟩
  refine z_aload_n g dX11_lays_0 rfl ?_
  refine z_iconst (v := 0) g dX11_lays_1 (by decide) ?_
  refine z_putI g fp_X11_195 hM.k0 (by decide) rfl (fun h => nomatch h) dX11_lays_2 ?_
  refine z_lload_n g dX11_lays_5 rfl ?_
  refine z_lstore_n g dX11_lays_6 (by rw [hN]; decide) ?_
  exact z_to (first_ r.length 0 r _ rfl (Nat.zero_add _) hr (SE.sIm (Or.inl rfl)) (by rw [fI_sI, if_pos ⟨rfl, rfl⟩]; rfl)) ⟨rfl, rfl, rfl, trivial⟩
set_option maxHeartbeats 4000000 in
set_option maxRecDepth 100000 in
theorem n_word (E : Ev) {A : Nat → Nat} {m : Nat} {S : Ms} (M : Mm) (hM : RM A m S M) (u : List Nat) (hu : LW 12 u) (hL : Lt A m M u) : CT E yX11_word cX11_word 4 (some .long) 1 0 0 [.ref m] M (ansL (lN (lv u.reverse)) M) noX := by
  refine CT.of rfl (Nat.le_of_ble_eq_true rfl) (fun X g hrt hno hE hN hR hI => ?_)
  subst hE
  have hu12 := hu.1
  have loop : ∀ (k j : Nat) (hk : k + j = u.length), Z X M 0 0 4 [(0, .ref m), (1, .long (lN (lv (u.take j).reverse))), (3, .int (nI j))] [] := by
    intro k
    induction k using Nat.strongRecOn with
    | _ k ih =>
      intro j hk
      refine z_iload_n g dX11_word_4 rfl ?_
      refine z_aload_n g dX11_word_5 rfl ?_
      refine z_getI g fl_X11_195 hM.k0 (by decide) rfl dX11_word_6 ?_
      rw [hL.1]
      refine z_icmp_ge (tgt := 32) g dX11_word_9 (by decide) (fun c_9 => ?_) (fun c_9 => ?_)
      · rw [nI_leI (by omega) (by omega)] at c_9
        rw [show u.take j = u from List.take_of_length_le (by omega)]
        refine z_lload_n g dX11_word_32 rfl ?_
        exact z_lret g hrt (by decide) (by decide) dX11_word_33 ⟨rfl, rfl⟩
      have h9 : j < u.length := by rw [nI_leI (by omega) (by omega)] at c_9; omega
      obtain ⟨x, hx⟩ : ∃ x, u[j]? = some x := ⟨u[j], List.getElem?_eq_getElem h9⟩
      have hx2 := hu.2 x (List.mem_of_getElem? hx)
      refine z_ldc2 g dX11_word_12 kc_X11_193 ?_
      refine z_lload_n g dX11_word_15 rfl ?_
      refine z_lmul g dX11_word_16 ?_
      rw [show (27 : Int64) = lN 27 from rfl, lN_mul]
      refine z_aload_n g dX11_word_17 rfl ?_
      refine z_getR g fl_X11_165 hM.k0 (by decide) rfl (hM.ref (k := 60) (by decide)) dX11_word_18 ?_
      refine z_iload_n g dX11_word_21 rfl ?_
      refine z_ialdk g (hM.kA1 (k := 60) (by decide)) (by decide) (vp_in_nI (by rw [hM.lnI (k := 60) (by decide)]; show _ < 24; omega) (by rw [hM.lnI (k := 60) (by decide)]; decide)) dX11_word_22 ?_
      rw [nI_clamp (by omega)]
      rw [hL.2 j x hx]
      refine z_i2l g dX11_word_23 ?_
      rw [i2l_n (by omega)]
      refine z_ladd g dX11_word_24 ?_
      rw [lN_add, show 27 * lv (u.take j).reverse + x = lv (u.take (j + 1)).reverse by rw [List.take_succ, hx]; simp only [Option.toList, List.reverse_append, List.reverse_cons, List.reverse_nil, List.nil_append, List.singleton_append]; show _ = x + 27 * _; omega]
      refine z_lstore_n g dX11_word_25 (by rw [hN]; decide) ?_
      refine z_iinc1 g dX11_word_26 rfl (by rw [hN]; decide) ?_
      refine z_goto (tgt := 4) g dX11_word_29 (by decide) ?_
      rw [nI_s]
      exact z_to (ih (k - 1) (by omega) (j + 1) (by omega)) ⟨rfl, rfl, rfl, trivial⟩
  refine z_lconst (v := 0) g dX11_word_0 (by decide) ?_
  refine z_lstore_n g dX11_word_1 (by rw [hN]; decide) ?_
  refine z_iconst (v := 0) g dX11_word_2 (by decide) ?_
  refine z_istore_n g dX11_word_3 (by rw [hN]; decide) ?_
  exact z_to (loop _ 0 rfl) ⟨rfl, rfl, rfl, trivial⟩
theorem Lt_61 {A : Nat → Nat} {m : Nat} {S : Ms} {M : Mm} (hM : RM A m S M) {k : Nat} {v : Int32} {u : List Nat} (h : Lt A m M u) : Lt A m (sI M (A 61) k v) u :=
  ⟨by rw [fI_sI, if_neg (fun z => hM.nem (k := 61) (by decide) z.1)]; exact h.1, fun i x hx => by rw [fI_sI, if_neg (fun z => hM.ne (k := 60) (j := 61) (by decide) (by decide) (by decide) z.1)]; exact h.2 i x hx⟩
theorem tk12 {v : List Nat} {i x : Nat} (h : (v.take 12)[i]? = some x) : v[i]? = some x := by
  rw [List.getElem?_take] at h
  split at h
  · exact h
  · cases h
set_option maxHeartbeats 4000000 in
set_option maxRecDepth 100000 in
theorem n_apl (E : Ev) {A : Nat → Nat} {m : Nat} {S : Ms} (M : Mm) (hM : RM A m S M) (u : List Nat) (hu : LW 12 u) (hL : Lt A m M u) (l : Nat) (hl : l < 12) {a b c : Nat} (ha : gA S 27 l = nI a) (hb : gA S 28 l = nI b) (hc : gA S 29 l = nI c) (ha26 : a ≤ 26) (hb26 : b ≤ 26) (hc26 : c ≤ 26) : CT E yX11_applies cX11_applies 4 none 1 0 0 [.ref m, .int (nI l)] M ((fun r' M' => r' = none ∧ SE A m M M' ∧ Lt A m M' (apl a b c u))) noX := by
  refine CT.of rfl (Nat.le_of_ble_eq_true rfl) (fun X g hrt hno hE hN hR hI => ?_)
  subst hE
  have hu12 := hu.1
  have copy : ∀ (k j q : Nat) (M1 : Mm) (hk : k + j = q) (hq : q = (apl a b c u).length) (se : SE A m M M1) (hf : fI M1 m 62 = nI q) (hv : ∀ i x, (apl a b c u)[i]? = some x → fI M1 (A 61) i = nI x) (hd : ∀ i x, i < j → (apl a b c u)[i]? = some x → fI M1 (A 60) i = nI x), Z X M1 0 0 122 [(0, .ref m), (3, .int (nI j))] [] := by
    intro k
    induction k using Nat.strongRecOn with
    | _ k ih =>
      intro j q M1 hk hq se hf hv hd
      have hM1 := hM.SE se
      have hq12 : q ≤ 12 := by rw [hq]; unfold apl; rw [List.length_take]; omega
      refine z_iload_n g dX11_applies_122 rfl ?_
      refine z_aload_n g dX11_applies_123 rfl ?_
      refine z_getI g fl_X11_195 hM1.k0 (by decide) rfl dX11_applies_124 ?_
      rw [hf]
      refine z_icmp_ge (tgt := 148) g dX11_applies_127 (by decide) (fun c_127 => ?_) (fun c_127 => ?_)
      · rw [nI_leI (by omega) (by omega)] at c_127
        exact z_vret g hrt (by decide) (by decide) dX11_applies_148 ⟨rfl, se, by rw [← hq]; exact hf, fun i x h => hd i x (by
          rcases Nat.lt_or_ge i q with z | z
          · omega
          · rw [List.getElem?_eq_none (by omega)] at h; cases h) h⟩
      have h127 : j < q := by rw [nI_leI (by omega) (by omega)] at c_127; omega
      obtain ⟨x, hx⟩ : ∃ x, (apl a b c u)[j]? = some x := ⟨(apl a b c u)[j], List.getElem?_eq_getElem (by omega)⟩
      refine z_aload_n g dX11_applies_130 rfl ?_
      refine z_getR g fl_X11_165 hM1.k0 (by decide) rfl (hM1.ref (k := 60) (by decide)) dX11_applies_131 ?_
      refine z_iload_n g dX11_applies_134 rfl ?_
      refine z_aload_n g dX11_applies_135 rfl ?_
      refine z_getR g fl_X11_168 hM1.k0 (by decide) rfl (hM1.ref (k := 61) (by decide)) dX11_applies_136 ?_
      refine z_iload_n g dX11_applies_139 rfl ?_
      refine z_ialdk g (hM1.kA1 (k := 61) (by decide)) (by decide) (vp_in_nI (by rw [hM1.lnI (k := 61) (by decide)]; show _ < 24; omega) (by rw [hM1.lnI (k := 61) (by decide)]; decide)) dX11_applies_140 ?_
      rw [nI_clamp (by omega)]
      rw [hv j x hx]
      refine z_iastk g (hM1.kA1 (k := 60) (by decide)) (by decide) (vp_in_nI (by rw [hM1.lnI (k := 60) (by decide)]; show _ < 24; omega) (by rw [hM1.lnI (k := 60) (by decide)]; decide)) dX11_applies_141 ?_
      rw [nI_clamp (by omega)]
      refine z_iinc1 g dX11_applies_142 rfl (by rw [hN]; decide) ?_
      refine z_goto (tgt := 122) g dX11_applies_145 (by decide) ?_
      rw [nI_s]
      refine z_to (ih (k - 1) (by omega) (j + 1) q _ (by omega) hq (se.tr (SE.sI60 (Or.inl rfl))) (by rw [fI_sI, if_neg (fun z => hM1.nem (k := 60) (by decide) z.1)]; exact hf) (fun i y h => by rw [fI_sI, if_neg (fun z => hM1.ne (k := 61) (j := 60) (by decide) (by decide) (by decide) z.1)]; exact hv i y h) (fun i y h1 h2 => ?_)) ⟨rfl, rfl, trivial⟩
      rw [fI_sI]
      by_cases hi : i = j
      · rw [if_pos ⟨rfl, hi⟩]
        rw [hi, hx] at h2; cases h2; rfl
      · rw [if_neg (fun z => hi z.2)]; exact hd i y (by omega) h2
  have tail : ∀ (M1 : Mm) (n : Nat) (se : SE A m M M1) (hn : n = (u.flatMap (sub1 a b c)).length) (hv : ∀ i x, (u.flatMap (sub1 a b c))[i]? = some x → fI M1 (A 61) i = nI x), Z X M1 0 0 104 [(0, .ref m), (2, .int (nI n))] [] := by
    intro M1 n se hn hv
    have hM1 := hM.SE se
    have hnl := fm_le (a := a) (b := b) (c := c) u
    have hn24 : n ≤ 24 := by omega
    refine z_aload_n g dX11_applies_104 rfl ?_
    refine z_iload_n g dX11_applies_105 rfl ?_
    refine z_bipush (v := 12) g dX11_applies_106 (by decide) ?_
    refine z_icmp_ge (tgt := 115) g dX11_applies_108 (by decide) (fun c_108 => ?_) (fun c_108 => ?_)
    · refine z_bipush (v := 12) g dX11_applies_115 (by decide) ?_
      refine z_putI g fp_X11_195 hM1.k0 (by decide) rfl (fun h => nomatch h) dX11_applies_117 ?_
      refine z_iconst (v := 0) g dX11_applies_120 (by decide) ?_
      refine z_istore_n g dX11_applies_121 (by rw [hN]; decide) ?_
      first
        | (have hmin : n ≤ 12 := by rw [nI12, nI_leI (by omega) (by omega)] at c_108; omega
           exact z_to (copy n 0 n _ (Nat.add_zero _) (by unfold apl; rw [List.length_take]; omega) (se.tr (SE.sIm (Or.inl rfl))) (by rw [fI_sI, if_pos ⟨rfl, rfl⟩]) (fun i x h => by rw [fI_sI, if_neg (fun z => hM1.nem (k := 61) (by decide) z.1.symm)]; exact hv i x (tk12 h)) (fun i x h => absurd h (Nat.not_lt_zero _))) ⟨rfl, rfl, trivial⟩)
        | (have hmin : 12 ≤ n := by rw [nI12, nI_leI (by omega) (by omega)] at c_108; omega
           exact z_to (copy 12 0 12 _ rfl (by unfold apl; rw [List.length_take]; omega) (se.tr (SE.sIm (Or.inl rfl))) (by rw [fI_sI, if_pos ⟨rfl, rfl⟩]; rfl) (fun i x h => by rw [fI_sI, if_neg (fun z => hM1.nem (k := 61) (by decide) z.1.symm)]; exact hv i x (tk12 h)) (fun i x h => absurd h (Nat.not_lt_zero _))) ⟨rfl, rfl, trivial⟩)
    · refine z_iload_n g dX11_applies_111 rfl ?_
      refine z_goto (tgt := 117) g dX11_applies_112 (by decide) ?_
      refine z_putI g fp_X11_195 hM1.k0 (by decide) rfl (fun h => nomatch h) dX11_applies_117 ?_
      refine z_iconst (v := 0) g dX11_applies_120 (by decide) ?_
      refine z_istore_n g dX11_applies_121 (by rw [hN]; decide) ?_
      first
        | (have hmin : n ≤ 12 := by rw [nI12, nI_leI (by omega) (by omega)] at c_108; omega
           exact z_to (copy n 0 n _ (Nat.add_zero _) (by unfold apl; rw [List.length_take]; omega) (se.tr (SE.sIm (Or.inl rfl))) (by rw [fI_sI, if_pos ⟨rfl, rfl⟩]) (fun i x h => by rw [fI_sI, if_neg (fun z => hM1.nem (k := 61) (by decide) z.1.symm)]; exact hv i x (tk12 h)) (fun i x h => absurd h (Nat.not_lt_zero _))) ⟨rfl, rfl, trivial⟩)
        | (have hmin : 12 ≤ n := by rw [nI12, nI_leI (by omega) (by omega)] at c_108; omega
           exact z_to (copy 12 0 12 _ rfl (by unfold apl; rw [List.length_take]; omega) (se.tr (SE.sIm (Or.inl rfl))) (by rw [fI_sI, if_pos ⟨rfl, rfl⟩]; rfl) (fun i x h => by rw [fI_sI, if_neg (fun z => hM1.nem (k := 61) (by decide) z.1.symm)]; exact hv i x (tk12 h)) (fun i x h => absurd h (Nat.not_lt_zero _))) ⟨rfl, rfl, trivial⟩)
  have loop : ∀ (k j n : Nat) (M1 : Mm) (hk : k + j = u.length) (se : SE A m M M1) (hL : Lt A m M1 u) (hn : n = ((u.take j).flatMap (sub1 a b c)).length) (hv : (∀ i x, ((u.take j).flatMap (sub1 a b c))[i]? = some x → fI M1 (A 61) i = nI x)), Z X M1 0 0 4 [(0, .ref m), (1, .int (nI l)), (2, .int (nI n)), (3, .int (nI j))] [] := by
    intro k
    induction k using Nat.strongRecOn with
    | _ k ih =>
      intro j n M1 hk se hL hn hv
      have hM1 := hM.SE se
      refine z_iload_n g dX11_applies_4 rfl ?_
      refine z_aload_n g dX11_applies_5 rfl ?_
      refine z_getI g fl_X11_195 hM1.k0 (by decide) rfl dX11_applies_6 ?_
      rw [hL.1]
      refine z_icmp_ge (tgt := 104) g dX11_applies_9 (by decide) (fun c_9 => ?_) (fun c_9 => ?_)
      · rw [nI_leI (by omega) (by omega)] at c_9
        rw [show u.take j = u from List.take_of_length_le (by omega)] at hn hv
        exact z_to (tail M1 n se hn hv) ⟨rfl, rfl, trivial⟩
      have h9 : j < u.length := by rw [nI_leI (by omega) (by omega)] at c_9; omega
      obtain ⟨x, hx⟩ : ∃ x, u[j]? = some x := ⟨u[j], List.getElem?_eq_getElem h9⟩
      have hx2 := hu.2 x (List.mem_of_getElem? hx)
      have hts : u.take (j + 1) = u.take j ++ [x] := by rw [List.take_succ, hx]; rfl
      have hfm : (u.take (j + 1)).flatMap (sub1 a b c) = (u.take j).flatMap (sub1 a b c) ++ sub1 a b c x := by rw [hts, List.flatMap_append]; simp
      have hnl := fm_le (a := a) (b := b) (c := c) (u.take j)
      rw [List.length_take] at hnl
      refine z_aload_n g dX11_applies_12 rfl ?_
      refine z_getR g fl_X11_165 hM1.k0 (by decide) rfl (hM1.ref (k := 60) (by decide)) dX11_applies_13 ?_
      refine z_iload_n g dX11_applies_16 rfl ?_
      refine z_ialdk g (hM1.kA1 (k := 60) (by decide)) (by decide) (vp_in_nI (by rw [hM1.lnI (k := 60) (by decide)]; show _ < 24; omega) (by rw [hM1.lnI (k := 60) (by decide)]; decide)) dX11_applies_17 ?_
      rw [nI_clamp (by omega)]
      rw [hL.2 j x hx]
      refine z_aload_n g dX11_applies_18 rfl ?_
      refine z_getR g fl_X11_77 hM1.k0 (by decide) rfl (hM1.ref (k := 27) (by decide)) dX11_applies_19 ?_
      refine z_iload_n g dX11_applies_22 rfl ?_
      refine z_ialdk g (hM1.kA1 (k := 27) (by decide)) (by decide) (vp_in_nI (by rw [hM1.lnI (k := 27) (by decide)]; show _ < 12; omega) (by rw [hM1.lnI (k := 27) (by decide)]; decide)) dX11_applies_23 ?_
      rw [nI_clamp (by omega), hM1.row (k := 27) (by decide) (by decide)]
      rw [ha]
      refine z_icmp_eq (tgt := 45) g dX11_applies_24 (by decide) (fun c_24 => ?_) (fun c_24 => ?_)
      rotate_left
      · have hxa : ¬ x = a := fun z => c_24 (by rw [z])
        have hsub : sub1 a b c x = [x] := if_neg hxa
        refine z_aload_n g dX11_applies_27 rfl ?_
        refine z_getR g fl_X11_168 hM1.k0 (by decide) rfl (hM1.ref (k := 61) (by decide)) dX11_applies_28 ?_
        refine z_iload_n g dX11_applies_31 rfl ?_
        refine z_aload_n g dX11_applies_32 rfl ?_
        refine z_getR g fl_X11_165 hM1.k0 (by decide) rfl (hM1.ref (k := 60) (by decide)) dX11_applies_33 ?_
        refine z_iload_n g dX11_applies_36 rfl ?_
        refine z_ialdk g (hM1.kA1 (k := 60) (by decide)) (by decide) (vp_in_nI (by rw [hM1.lnI (k := 60) (by decide)]; show _ < 24; omega) (by rw [hM1.lnI (k := 60) (by decide)]; decide)) dX11_applies_37 ?_
        rw [nI_clamp (by omega)]
        rw [hL.2 j x hx]
        refine z_iastk g (hM1.kA1 (k := 61) (by decide)) (by decide) (vp_in_nI (by rw [hM1.lnI (k := 61) (by decide)]; show _ < 24; omega) (by rw [hM1.lnI (k := 61) (by decide)]; decide)) dX11_applies_38 ?_
        rw [nI_clamp (by omega)]
        refine z_iinc1 g dX11_applies_39 rfl (by rw [hN]; decide) ?_
        refine z_goto (tgt := 98) g dX11_applies_42 (by decide) ?_
        refine z_iinc1 g dX11_applies_98 rfl (by rw [hN]; decide) ?_
        refine z_goto (tgt := 4) g dX11_applies_101 (by decide) ?_
        rw [nI_s, nI_s]
        refine z_to (ih (k - 1) (by omega) (j + 1) (n + 1) _ (by omega) (se.tr (SE.sI60 (Or.inr (Or.inl rfl)))) (Lt_61 hM1 hL) (by rw [hfm, hsub, List.length_append, hn]; rfl) (fun i y h => ?_)) ⟨rfl, rfl, rfl, rfl, trivial⟩
        rw [hfm, hsub] at h
        rw [fI_sI]
        by_cases hi : i = n
        · rw [if_pos ⟨rfl, hi⟩]
          rw [hi, hn, List.getElem?_append_right (Nat.le_refl _), Nat.sub_self] at h
          cases h; rfl
        · rw [if_neg (fun z => hi z.2)]
          have hin : i < n + 1 := by
            rcases Nat.lt_or_ge i (n + 1) with z | z
            · exact z
            · rw [List.getElem?_eq_none (by rw [List.length_append, ← hn]; exact z)] at h; cases h
          exact hv i y (by rw [List.getElem?_append_left (by omega)] at h; exact h)
      have hxa : x = a := (nI_eq (by omega) (by omega)).mp c_24
      have hsub : sub1 a b c x = (if 0 < b then b :: (if 0 < c then [c] else []) else []) := if_pos hxa
      refine z_aload_n g dX11_applies_45 rfl ?_
      refine z_getR g fl_X11_80 hM1.k0 (by decide) rfl (hM1.ref (k := 28) (by decide)) dX11_applies_46 ?_
      refine z_iload_n g dX11_applies_49 rfl ?_
      refine z_ialdk g (hM1.kA1 (k := 28) (by decide)) (by decide) (vp_in_nI (by rw [hM1.lnI (k := 28) (by decide)]; show _ < 12; omega) (by rw [hM1.lnI (k := 28) (by decide)]; decide)) dX11_applies_50 ?_
      rw [nI_clamp (by omega), hM1.row (k := 28) (by decide) (by decide)]
      rw [hb]
      refine z_if_le (tgt := 98) g dX11_applies_51 (by decide) (fun c_51 => ?_) (fun c_51 => ?_)
      · have hb0 : b = 0 := by rw [show (0 : Int32) = nI 0 from rfl, nI_leI (by omega) (by omega)] at c_51; omega
        rw [if_neg (by omega)] at hsub
        refine z_iinc1 g dX11_applies_98 rfl (by rw [hN]; decide) ?_
        refine z_goto (tgt := 4) g dX11_applies_101 (by decide) ?_
        rw [nI_s]
        exact z_to (ih (k - 1) (by omega) (j + 1) n M1 (by omega) se hL (by rw [hfm, hsub, List.append_nil]; exact hn) (fun i y h => hv i y (by rw [hfm, hsub, List.append_nil] at h; exact h))) ⟨rfl, rfl, rfl, rfl, trivial⟩
      have hb0 : 0 < b := by rw [show (0 : Int32) = nI 0 from rfl, nI_leI (by omega) (by omega)] at c_51; omega
      rw [if_pos hb0] at hsub
      refine z_aload_n g dX11_applies_54 rfl ?_
      refine z_getR g fl_X11_168 hM1.k0 (by decide) rfl (hM1.ref (k := 61) (by decide)) dX11_applies_55 ?_
      refine z_iload_n g dX11_applies_58 rfl ?_
      refine z_aload_n g dX11_applies_59 rfl ?_
      refine z_getR g fl_X11_80 hM1.k0 (by decide) rfl (hM1.ref (k := 28) (by decide)) dX11_applies_60 ?_
      refine z_iload_n g dX11_applies_63 rfl ?_
      refine z_ialdk g (hM1.kA1 (k := 28) (by decide)) (by decide) (vp_in_nI (by rw [hM1.lnI (k := 28) (by decide)]; show _ < 12; omega) (by rw [hM1.lnI (k := 28) (by decide)]; decide)) dX11_applies_64 ?_
      rw [nI_clamp (by omega), hM1.row (k := 28) (by decide) (by decide)]
      rw [hb]
      refine z_iastk g (hM1.kA1 (k := 61) (by decide)) (by decide) (vp_in_nI (by rw [hM1.lnI (k := 61) (by decide)]; show _ < 24; omega) (by rw [hM1.lnI (k := 61) (by decide)]; decide)) dX11_applies_65 ?_
      rw [nI_clamp (by omega)]
      have se2 : SE A m M (sI M1 (A 61) n (nI b)) := se.tr (SE.sI60 (Or.inr (Or.inl rfl)))
      have hM2 := hM.SE se2
      refine z_iinc1 g dX11_applies_66 rfl (by rw [hN]; decide) ?_
      rw [nI_s]
      refine z_aload_n g dX11_applies_69 rfl ?_
      refine z_getR g fl_X11_168 hM2.k0 (by decide) rfl (hM2.ref (k := 61) (by decide)) dX11_applies_70 ?_
      refine z_iload_n g dX11_applies_73 rfl ?_
      refine z_aload_n g dX11_applies_74 rfl ?_
      refine z_getR g fl_X11_83 hM2.k0 (by decide) rfl (hM2.ref (k := 29) (by decide)) dX11_applies_75 ?_
      refine z_iload_n g dX11_applies_78 rfl ?_
      refine z_ialdk g (hM2.kA1 (k := 29) (by decide)) (by decide) (vp_in_nI (by rw [hM2.lnI (k := 29) (by decide)]; show _ < 12; omega) (by rw [hM2.lnI (k := 29) (by decide)]; decide)) dX11_applies_79 ?_
      rw [nI_clamp (by omega), hM2.row (k := 29) (by decide) (by decide)]
      rw [hc]
      refine z_iastk g (hM2.kA1 (k := 61) (by decide)) (by decide) (vp_in_nI (by rw [hM2.lnI (k := 61) (by decide)]; show _ < 24; omega) (by rw [hM2.lnI (k := 61) (by decide)]; decide)) dX11_applies_80 ?_
      rw [nI_clamp (by omega)]
      have se3 : SE A m M (sI (sI M1 (A 61) n (nI b)) (A 61) (n + 1) (nI c)) := se2.tr (SE.sI60 (Or.inr (Or.inl rfl)))
      have hM3 := hM.SE se3
      refine z_iload_n g dX11_applies_81 rfl ?_
      refine z_aload_n g dX11_applies_82 rfl ?_
      refine z_getR g fl_X11_83 hM3.k0 (by decide) rfl (hM3.ref (k := 29) (by decide)) dX11_applies_83 ?_
      refine z_iload_n g dX11_applies_86 rfl ?_
      refine z_ialdk g (hM3.kA1 (k := 29) (by decide)) (by decide) (vp_in_nI (by rw [hM3.lnI (k := 29) (by decide)]; show _ < 12; omega) (by rw [hM3.lnI (k := 29) (by decide)]; decide)) dX11_applies_87 ?_
      rw [nI_clamp (by omega), hM3.row (k := 29) (by decide) (by decide)]
      rw [hc]
      refine z_if_le (tgt := 95) g dX11_applies_88 (by decide) (fun c_88 => ?_) (fun c_88 => ?_)
      · refine z_iconst (v := 0) g dX11_applies_95 (by decide) ?_
        refine z_iadd g dX11_applies_96 ?_
        refine z_istore_n g dX11_applies_97 (by rw [hN]; decide) ?_
        refine z_iinc1 g dX11_applies_98 rfl (by rw [hN]; decide) ?_
        refine z_goto (tgt := 4) g dX11_applies_101 (by decide) ?_
        have hL3 := Lt_61 hM2 (Lt_61 (k := n) (v := nI b) hM1 hL) (k := n + 1) (v := nI c)
        rw [nI_s]
        first
          | (have hc0 : c = 0 := by rw [show (0 : Int32) = nI 0 from rfl, nI_leI (by omega) (by omega)] at c_88; omega
             rw [if_neg (by omega)] at hsub
             rw [show nI (n + 1) + 0 = nI (n + 1) from nI_add (n + 1) 0]
             refine z_to (ih (k - 1) (by omega) (j + 1) (n + 1) _ (by omega) se3 hL3 (by rw [hfm, hsub, List.length_append, hn]; rfl) (fun i y h => ?_)) ⟨rfl, rfl, rfl, rfl, trivial⟩)
          | (have hc0 : 0 < c := by rw [show (0 : Int32) = nI 0 from rfl, nI_leI (by omega) (by omega)] at c_88; omega
             rw [if_pos hc0] at hsub
             rw [nI_s]
             refine z_to (ih (k - 1) (by omega) (j + 1) (n + 2) _ (by omega) se3 hL3 (by rw [hfm, hsub, List.length_append, hn]; rfl) (fun i y h => ?_)) ⟨rfl, rfl, rfl, rfl, trivial⟩)
        rw [hfm, hsub] at h
        rw [fI_sI, fI_sI]
        rcases Nat.lt_or_ge i n with z | z
        · rw [if_neg (fun z2 => by omega), if_neg (fun z2 => by omega)]
          exact hv i y (by rw [List.getElem?_append_left (by omega)] at h; exact h)
        · rw [List.getElem?_append_right (by omega), ← hn] at h
          rcases (show i = n ∨ i = n + 1 ∨ n + 2 ≤ i by omega) with z3 | z3 | z3
          · rw [z3, Nat.sub_self] at h
            cases h
            rw [if_neg (fun z2 => by omega), if_pos ⟨rfl, z3⟩]
          · rw [z3, show n + 1 - n = 1 by omega] at h
            rw [if_pos ⟨rfl, z3⟩]
            simp at h
            try rw [h]
          · rw [List.getElem?_eq_none (by simp; omega)] at h; cases h
      · refine z_iconst (v := 1) g dX11_applies_91 (by decide) ?_
        refine z_goto (tgt := 96) g dX11_applies_92 (by decide) ?_
        refine z_iadd g dX11_applies_96 ?_
        refine z_istore_n g dX11_applies_97 (by rw [hN]; decide) ?_
        refine z_iinc1 g dX11_applies_98 rfl (by rw [hN]; decide) ?_
        refine z_goto (tgt := 4) g dX11_applies_101 (by decide) ?_
        have hL3 := Lt_61 hM2 (Lt_61 (k := n) (v := nI b) hM1 hL) (k := n + 1) (v := nI c)
        rw [nI_s]
        first
          | (have hc0 : c = 0 := by rw [show (0 : Int32) = nI 0 from rfl, nI_leI (by omega) (by omega)] at c_88; omega
             rw [if_neg (by omega)] at hsub
             rw [show nI (n + 1) + 0 = nI (n + 1) from nI_add (n + 1) 0]
             refine z_to (ih (k - 1) (by omega) (j + 1) (n + 1) _ (by omega) se3 hL3 (by rw [hfm, hsub, List.length_append, hn]; rfl) (fun i y h => ?_)) ⟨rfl, rfl, rfl, rfl, trivial⟩)
          | (have hc0 : 0 < c := by rw [show (0 : Int32) = nI 0 from rfl, nI_leI (by omega) (by omega)] at c_88; omega
             rw [if_pos hc0] at hsub
             rw [nI_s]
             refine z_to (ih (k - 1) (by omega) (j + 1) (n + 2) _ (by omega) se3 hL3 (by rw [hfm, hsub, List.length_append, hn]; rfl) (fun i y h => ?_)) ⟨rfl, rfl, rfl, rfl, trivial⟩)
        rw [hfm, hsub] at h
        rw [fI_sI, fI_sI]
        rcases Nat.lt_or_ge i n with z | z
        · rw [if_neg (fun z2 => by omega), if_neg (fun z2 => by omega)]
          exact hv i y (by rw [List.getElem?_append_left (by omega)] at h; exact h)
        · rw [List.getElem?_append_right (by omega), ← hn] at h
          rcases (show i = n ∨ i = n + 1 ∨ n + 2 ≤ i by omega) with z3 | z3 | z3
          · rw [z3, Nat.sub_self] at h
            cases h
            rw [if_neg (fun z2 => by omega), if_pos ⟨rfl, z3⟩]
          · rw [z3, show n + 1 - n = 1 by omega] at h
            rw [if_pos ⟨rfl, z3⟩]
            simp at h
            try rw [h]
          · rw [List.getElem?_eq_none (by simp; omega)] at h; cases h
  refine z_iconst (v := 0) g dX11_applies_0 (by decide) ?_
  refine z_istore_n g dX11_applies_1 (by rw [hN]; decide) ?_
  refine z_iconst (v := 0) g dX11_applies_2 (by decide) ?_
  refine z_istore_n g dX11_applies_3 (by rw [hN]; decide) ?_
  exact z_to (loop _ 0 0 M rfl SE.rf hL (by simp) (fun i x h => by simp at h)) ⟨rfl, rfl, rfl, rfl, trivial⟩
