theorem lev_max : ∀ a b : List Nat, lev a b ≤ max a.length b.length
  | [], b => by show b.length ≤ _; omega
  | x :: a, [] => by rw [lev_nil]; omega
  | x :: a, y :: b => by
    have h := lev_max a b
    show min (lev a b + (if x = y then 0 else 1)) _ ≤ _
    simp only [List.length_cons]
    split <;> omega
theorem min_nI {a b : Nat} (ha : a < 2 ^ 31) (hb : b < 2 ^ 31) : (if nI b < nI a then nI b else nI a) = nI (min a b) := by
  by_cases c : b < a
  · rw [if_pos ((nI_ltI hb ha).mpr c), Nat.min_eq_right (by omega)]
  · rw [if_neg (fun z => c ((nI_ltI hb ha).mp z)), Nat.min_eq_left (by omega)]
theorem LW.drop {n k : Nat} {r : List Nat} (h : LW n r) : LW n (r.drop k) := ⟨by rw [List.length_drop]; have := h.1; omega, fun x hx => h.2 x (List.mem_of_mem_drop hx)⟩
theorem drop_lt {r : List Nat} {j y : Nat} (h : r[j]? = some y) : r.drop j = y :: r.drop (j + 1) := by
  obtain ⟨h1, h2⟩ := List.getElem?_eq_some_iff.mp h
  rw [List.drop_eq_getElem_cons h1, h2]
theorem drop_ge {r : List Nat} {j : Nat} (h : r[j]? = none) : r.drop j = [] ∧ r.drop (j + 1) = [] := by
  have := List.getElem?_eq_none_iff.mp h
  exact ⟨List.drop_of_length_le this, List.drop_of_length_le (by omega)⟩
theorem lv_dmod {n : Nat} {r : List Nat} (h : LW n r) (j : Nat) : lv (r.drop j) % 27 = (r[j]?).getD 0 ∧ lv (r.drop j) / 27 = lv (r.drop (j + 1)) := by
  rcases hj : r[j]? with _ | y
  · obtain ⟨e1, e2⟩ := drop_ge hj
    rw [e1, e2]; exact ⟨rfl, rfl⟩
  · have hy := h.2 y (List.mem_of_getElem? hj)
    rw [drop_lt hj]
    exact ⟨lv_mod hy.2, lv_div hy.2⟩
theorem lcmpN {a b : Nat} (ha : a < 2 ^ 63) (hb : b < 2 ^ 63) : lg_cmp (lN a) (lN b) = 0 ↔ a = b := by rw [lg_cmp_eq, pk_lEQ ha hb]
set_option maxHeartbeats 4000000 in
set_option maxRecDepth 100000 in
theorem k_addE (E : Ev) {x e : Nat} (M : Mm) (k11 : kd M x % 1000 = 11) (re : fR M x 9 = some e) (ke : kd M e % 1000 = 177) (le : ln M e = 9) (r2 : List Nat) (hr : LW 8 r2) (l : Nat) (hl : l ≤ 26) (Dn Dn1 : Nat → Nat) (hb : ∀ i, i ≤ r2.length → Dn i < 1000) (hb1 : ∀ i, i ≤ r2.length → Dn1 i < 1000) (h0 : Dn1 0 = Dn 0 + 1) (hs : ∀ i y, r2[i]? = some y → Dn1 (i + 1) = min (Dn i + (if l = y then 0 else 1)) (min (Dn (i + 1) + 1) (Dn1 i + 1))) (G : Nat → Int32) (hG : ∀ i, i ≤ r2.length → G i = nI (Dn i)) : CT E yX10_addToEdits cX10_addToEdits 12 none 2 0 0 [.ref x, .long (lN l), .long (lN (lv r2))] (rowI M e G) (fun r M' => r = none ∧ ∃ G', M' = rowI M e G' ∧ ∀ i, i ≤ r2.length → G' i = nI (Dn1 i)) noX := by
  refine CT.of rfl (Nat.le_of_ble_eq_true rfl) (fun X g hrt hno hE hN hR hI => ?_)
  subst hE
  have hr8 := hr.1
  have loop : ∀ (k j : Nat) (G' : Nat → Int32) (dg lf : Int32) (hk : k + j = 9) (hlo : ∀ i, i < j → i ≤ r2.length → G' i = nI (Dn1 i)) (hhi : ∀ i, j ≤ i → G' i = G i) (hd : 1 ≤ j → j - 1 ≤ r2.length → dg = nI (Dn (j - 1)) ∧ lf = nI (Dn1 (j - 1))), Z X (rowI M e G') 0 0 12 [(0, .ref x), (1, .long (lN l)), (3, .long (lN (lv r2))), (5, .int dg), (6, .int lf), (7, .long (lN (lv (r2.drop (j - 1))))), (9, .int (nI j))] [] := by
    intro k
    induction k using Nat.strongRecOn with
    | _ k ih =>
      intro j G' dg lf hk hlo hhi hd
      refine z_iload g dX10_addToEdits_12 rfl ?_
      refine z_aload_n g dX10_addToEdits_14 rfl ?_
      refine z_getR g fl_X10_45 k11 (by decide) rfl re dX10_addToEdits_15 ?_
      refine z_alenIk (k := 177) g ke (by decide) dX10_addToEdits_18 ?_
      rw [show ln (rowI M e G') e = 9 from le]
      refine z_icmp_ge (tgt := 109) g dX10_addToEdits_19 (by decide) (fun c_19 => ?_) (fun c_19 => ?_)
      · rw [nI_leI (by decide) (by omega)] at c_19
        exact z_vret g hrt (by decide) (by decide) dX10_addToEdits_109 ⟨rfl, G', rfl, fun i hi => hlo i (by omega) hi⟩
      have h19 : j < 9 := by rw [nI_leI (by decide) (by omega)] at c_19; omega
      refine z_aload_n g dX10_addToEdits_22 rfl ?_
      refine z_getR g fl_X10_45 k11 (by decide) rfl re dX10_addToEdits_23 ?_
      refine z_iload g dX10_addToEdits_26 rfl ?_
      refine z_ialdk (k := 177) g ke (by decide) (vp_in_nI (by show _ < ln M e; omega) (by show ln M e < _; omega)) dX10_addToEdits_28 ?_
      rw [nI_clamp (by omega), rowI_s, hhi j (Nat.le_refl _)]
      refine z_istore g dX10_addToEdits_29 (by rw [hN]; decide) ?_
      refine z_iload g dX10_addToEdits_31 rfl ?_
      have nxt : ∀ (l1 : Int32), (j ≤ r2.length → l1 = nI (Dn1 j)) → Z X (rowI M e G') 0 0 90 [(0, .ref x), (1, .long (lN l)), (3, .long (lN (lv r2))), (6, .int l1), (7, .long (lN (lv (r2.drop j)))), (9, .int (nI j)), (10, .int (G j))] [] := by
        intro l1 hl1
        refine z_aload_n g dX10_addToEdits_90 rfl ?_
        refine z_getR g fl_X10_45 k11 (by decide) rfl re dX10_addToEdits_91 ?_
        refine z_iload g dX10_addToEdits_94 rfl ?_
        refine z_iload g dX10_addToEdits_96 rfl ?_
        refine z_iastk (k := 177) g ke (by decide) (vp_in_nI (by show _ < ln M e; omega) (by show ln M e < _; omega)) dX10_addToEdits_98 ?_
        rw [nI_clamp (by omega), sI_row, rowI_s, rowI_rowI]
        refine z_iload g dX10_addToEdits_99 rfl ?_
        refine z_istore g dX10_addToEdits_101 (by rw [hN]; decide) ?_
        refine z_iinc1 g dX10_addToEdits_103 rfl (by rw [hN]; decide) ?_
        refine z_goto (tgt := 12) g dX10_addToEdits_106 (by decide) ?_
        rw [nI_s]
        refine z_to (ih (k - 1) (by omega) (j + 1) (pu G' j l1) (G j) l1 (by omega) (fun i hi h2 => ?_) (fun i hi => ?_) (fun _ h2 => ⟨hG _ h2, hl1 h2⟩)) ⟨rfl, rfl, rfl, rfl, rfl, rfl, rfl, trivial⟩
        · unfold pu
          by_cases e : i = j
          · rw [if_pos e, e]; exact hl1 (by omega)
          · rw [if_neg e]; exact hlo i (by omega) h2
        · unfold pu
          rw [if_neg (by omega)]; exact hhi i (by omega)
      refine z_if_ne (tgt := 45) g dX10_addToEdits_33 (by decide) (fun c_33 => ?_) (fun c_33 => ?_)
      rotate_left
      · have hj0 : j = 0 := by
          rcases Nat.eq_zero_or_pos j with z | z
          · exact z
          · exact absurd c_33 (nI_ne0 z (by omega))
        subst hj0
        refine z_iload g dX10_addToEdits_36 rfl ?_
        refine z_iconst (v := 1) g dX10_addToEdits_38 (by decide) ?_
        refine z_iadd g dX10_addToEdits_39 ?_
        refine z_istore g dX10_addToEdits_40 (by rw [hN]; decide) ?_
        refine z_goto (tgt := 90) g dX10_addToEdits_42 (by decide) ?_
        refine z_to (nxt (G 0 + 1) (fun h2 => by rw [hG 0 h2, nI_s, h0])) ⟨rfl, rfl, rfl, rfl, rfl, rfl, rfl, trivial⟩
      have hj1 : 1 ≤ j := by
        rcases Nat.eq_zero_or_pos j with z | z
        · exact absurd (by rw [z]; rfl) c_33
        · exact z
      have hmm := lv_dmod hr (j - 1)
      rw [show j - 1 + 1 = j by omega] at hmm
      have hm63 : lv (r2.drop (j - 1)) < 2 ^ 63 := (LW.mono hr.drop (by decide : 8 ≤ 12)).lt63 (Nat.le_refl _)
      refine z_iload g dX10_addToEdits_45 rfl ?_
      refine z_lload g dX10_addToEdits_47 rfl ?_
      refine z_ldc2 g dX10_addToEdits_49 kc_X10_295 ?_
      refine z_lrem g dX10_addToEdits_52 (by decide) ?_
      rw [rem27 hm63, hmm.1]
      refine z_lload_n g dX10_addToEdits_53 rfl ?_
      refine z_lcmp g dX10_addToEdits_54 ?_
      refine z_if_ne (tgt := 62) g dX10_addToEdits_55 (by decide) (fun c_55 => ?_) (fun c_55 => ?_)
      · refine z_iconst (v := 1) g dX10_addToEdits_62 (by decide) ?_
        refine z_iadd g dX10_addToEdits_63 ?_
        refine z_istore g dX10_addToEdits_64 (by rw [hN]; decide) ?_
        refine z_iload g dX10_addToEdits_66 rfl ?_
        refine z_iload g dX10_addToEdits_68 rfl ?_
        refine z_iload g dX10_addToEdits_70 rfl ?_
        refine z_mmin g ml_X10_406 (by rw [hR]; decide) (by rw [hR]; exact Nat.le_of_ble_eq_true rfl) (by rw [hR]; decide) (by rw [hR]; decide) dX10_addToEdits_72 ?_
        refine z_iconst (v := 1) g dX10_addToEdits_75 (by decide) ?_
        refine z_iadd g dX10_addToEdits_76 ?_
        refine z_mmin g ml_X10_406 (by rw [hR]; decide) (by rw [hR]; exact Nat.le_of_ble_eq_true rfl) (by rw [hR]; decide) (by rw [hR]; decide) dX10_addToEdits_77 ?_
        refine z_istore g dX10_addToEdits_80 (by rw [hN]; decide) ?_
        refine z_lload g dX10_addToEdits_82 rfl ?_
        refine z_ldc2 g dX10_addToEdits_84 kc_X10_295 ?_
        refine z_ldiv g dX10_addToEdits_87 (by decide) ?_
        rw [div27 hm63, hmm.2]
        refine z_lstore g dX10_addToEdits_88 (by rw [hN]; decide) ?_
        refine z_to (nxt _ (fun h2 => ?_)) ⟨rfl, rfl, rfl, rfl, rfl, rfl, rfl, trivial⟩
        obtain ⟨e1, e2⟩ := hd hj1 (by omega)
        obtain ⟨y, hy⟩ : ∃ y, r2[j - 1]? = some y := ⟨r2[j - 1], List.getElem?_eq_getElem (by omega)⟩
        have hs1 := hs (j - 1) y hy
        rw [show j - 1 + 1 = j by omega] at hs1
        have hb0 := hb (j - 1) (by omega)
        have hb2 := hb j h2
        have hb3 := hb1 (j - 1) (by omega)
        have hy26 := hr.2 y (List.mem_of_getElem? hy)
        rw [hy] at c_55
        rw [lcmpN (show (some y).getD 0 < 2 ^ 63 by show y < _; omega) (by omega)] at c_55
        first
          | (rw [if_neg (fun z : l = y => c_55 z.symm)] at hs1
             rw [e1, e2, hG j h2, nI_s, min_nI (by omega) (by omega), nI_s, min_nI (by omega) (by omega), hs1]
             congr 1; omega)
          | (rw [if_pos (show l = y from Eq.symm c_55)] at hs1
             rw [e1, e2, hG j h2, nI_p0, min_nI (by omega) (by omega), nI_s, min_nI (by omega) (by omega), hs1]
             congr 1; omega)
      · refine z_iconst (v := 0) g dX10_addToEdits_58 (by decide) ?_
        refine z_goto (tgt := 63) g dX10_addToEdits_59 (by decide) ?_
        refine z_iadd g dX10_addToEdits_63 ?_
        refine z_istore g dX10_addToEdits_64 (by rw [hN]; decide) ?_
        refine z_iload g dX10_addToEdits_66 rfl ?_
        refine z_iload g dX10_addToEdits_68 rfl ?_
        refine z_iload g dX10_addToEdits_70 rfl ?_
        refine z_mmin g ml_X10_406 (by rw [hR]; decide) (by rw [hR]; exact Nat.le_of_ble_eq_true rfl) (by rw [hR]; decide) (by rw [hR]; decide) dX10_addToEdits_72 ?_
        refine z_iconst (v := 1) g dX10_addToEdits_75 (by decide) ?_
        refine z_iadd g dX10_addToEdits_76 ?_
        refine z_mmin g ml_X10_406 (by rw [hR]; decide) (by rw [hR]; exact Nat.le_of_ble_eq_true rfl) (by rw [hR]; decide) (by rw [hR]; decide) dX10_addToEdits_77 ?_
        refine z_istore g dX10_addToEdits_80 (by rw [hN]; decide) ?_
        refine z_lload g dX10_addToEdits_82 rfl ?_
        refine z_ldc2 g dX10_addToEdits_84 kc_X10_295 ?_
        refine z_ldiv g dX10_addToEdits_87 (by decide) ?_
        rw [div27 hm63, hmm.2]
        refine z_lstore g dX10_addToEdits_88 (by rw [hN]; decide) ?_
        refine z_to (nxt _ (fun h2 => ?_)) ⟨rfl, rfl, rfl, rfl, rfl, rfl, rfl, trivial⟩
        obtain ⟨e1, e2⟩ := hd hj1 (by omega)
        obtain ⟨y, hy⟩ : ∃ y, r2[j - 1]? = some y := ⟨r2[j - 1], List.getElem?_eq_getElem (by omega)⟩
        have hs1 := hs (j - 1) y hy
        rw [show j - 1 + 1 = j by omega] at hs1
        have hb0 := hb (j - 1) (by omega)
        have hb2 := hb j h2
        have hb3 := hb1 (j - 1) (by omega)
        have hy26 := hr.2 y (List.mem_of_getElem? hy)
        rw [hy] at c_55
        rw [lcmpN (show (some y).getD 0 < 2 ^ 63 by show y < _; omega) (by omega)] at c_55
        first
          | (rw [if_neg (fun z : l = y => c_55 z.symm)] at hs1
             rw [e1, e2, hG j h2, nI_s, min_nI (by omega) (by omega), nI_s, min_nI (by omega) (by omega), hs1]
             congr 1; omega)
          | (rw [if_pos (show l = y from Eq.symm c_55)] at hs1
             rw [e1, e2, hG j h2, nI_p0, min_nI (by omega) (by omega), nI_s, min_nI (by omega) (by omega), hs1]
             congr 1; omega)
  refine z_iconst (v := 0) g dX10_addToEdits_0 (by decide) ?_
  refine z_istore g dX10_addToEdits_1 (by rw [hN]; decide) ?_
  refine z_iconst (v := 0) g dX10_addToEdits_3 (by decide) ?_
  refine z_istore g dX10_addToEdits_4 (by rw [hN]; decide) ?_
  refine z_lload_n g dX10_addToEdits_6 rfl ?_
  refine z_lstore g dX10_addToEdits_7 (by rw [hN]; decide) ?_
  refine z_iconst (v := 0) g dX10_addToEdits_9 (by decide) ?_
  refine z_istore g dX10_addToEdits_10 (by rw [hN]; decide) ?_
  exact z_to (loop 9 0 G 0 0 rfl (fun i hi => absurd hi (Nat.not_lt_zero i)) (fun i _ => rfl) (fun h => absurd h (by decide))) ⟨rfl, rfl, rfl, rfl, rfl, rfl, rfl, trivial⟩
set_option maxHeartbeats 4000000 in
set_option maxRecDepth 100000 in
theorem k_cedit (E : Ev) {x e : Nat} (M : Mm) (k11 : kd M x % 1000 = 11) (re : fR M x 9 = some e) (ke : kd M e % 1000 = 177) (le : ln M e = 9) (r1 r2 : List Nat) (hr1 : LW 8 r1) (hr2 : LW 8 r2) (G : Nat → Int32) : CT E yX10_countEdits cX10_countEdits 8 (some .int) 3 0 0 [.ref x, .long (lN (lv r1)), .long (lN (lv r2))] (rowI M e G) (fun r M' => r = some (.int (nI (lev r1 r2))) ∧ ∃ G', M' = rowI M e G') noX := by
  refine CT.of rfl (Nat.le_of_ble_eq_true rfl) (fun X g hrt hno hE hN hR hI => ?_)
  subst hE
  have hr18 := hr1.1
  have hr28 := hr2.1
  have fin : ∀ (G' : Nat → Int32) (hrow : ∀ i, i ≤ r2.length → G' i = nI (lvD r1 r2.reverse r1.length i)), Z X (rowI M e G') 0 0 73 [(0, .ref x), (3, .long (lN (lv r2)))] [] := by
    intro G' hrow
    refine z_lload_n g dX10_countEdits_73 rfl ?_
    refine z_callS g _ _ cs_X10_423 (c_cntL _ (rowI M e G') r2 (LW.mono hr2 (by decide))) rfl (by rw [hR]; decide) (by rw [hR]; decide) (by rw [hR]; decide) (Nat.le_of_ble_eq_true rfl) rfl dX10_countEdits_74 (fun _ _ h => False.elim h) (fun r_74 M_74 h_74 => ?_)
    obtain ⟨rfl, rfl⟩ := h_74
    refine z_istore g dX10_countEdits_77 (by rw [hN]; decide) ?_
    refine z_iload g dX10_countEdits_79 rfl ?_
    refine z_aload_n g dX10_countEdits_81 rfl ?_
    refine z_getR g fl_X10_45 k11 (by decide) rfl re dX10_countEdits_82 ?_
    refine z_alenIk (k := 177) g ke (by decide) dX10_countEdits_85 ?_
    rw [show ln (rowI M e G') e = 9 from le]
    refine z_icmp_ge (tgt := 99) g dX10_countEdits_86 (by decide) (fun c => absurd ((nI_leI (by decide) (by omega)).mp c) (by omega)) (fun _ => ?_)
    refine z_aload_n g dX10_countEdits_89 rfl ?_
    refine z_getR g fl_X10_45 k11 (by decide) rfl re dX10_countEdits_90 ?_
    refine z_iload g dX10_countEdits_93 rfl ?_
    refine z_ialdk (k := 177) g ke (by decide) (vp_in_nI (by show _ < ln M e; omega) (by show ln M e < _; omega)) dX10_countEdits_95 ?_
    rw [nI_clamp (by omega), rowI_s, hrow _ (Nat.le_refl _)]
    refine z_goto (tgt := 101) g dX10_countEdits_96 (by decide) ?_
    exact z_iret g hrt rfl (by decide) (by decide) dX10_countEdits_101 ⟨by rw [show lvD r1 r2.reverse r1.length r2.length = lev r1 r2 from by rw [show lvD r1 r2.reverse r1.length r2.length = lvD r1 r2.reverse r1.length r2.reverse.length from by rw [List.length_reverse], lvD_all, lev_rev]], G', rfl⟩
  have loop2 : ∀ (k n : Nat) (G' : Nat → Int32) (hk : k + n = 8) (hn1 : n ≤ r1.length) (hrow : ∀ i, i ≤ r2.length → G' i = nI (lvD r1 r2.reverse n i)), Z X (rowI M e G') 0 0 34 [(0, .ref x), (3, .long (lN (lv r2))), (5, .long (lN (lv (r1.drop n)))), (7, .int (nI n))] [] := by
    intro k
    induction k using Nat.strongRecOn with
    | _ k ih =>
      intro n G' hk hn1 hrow
      refine z_iload g dX10_countEdits_34 rfl ?_
      refine z_bipush (v := 8) g dX10_countEdits_36 (by decide) ?_
      refine z_icmp_ge (tgt := 73) g dX10_countEdits_38 (by decide) (fun c_38 => ?_) (fun c_38 => ?_)
      · have hn : n = r1.length := by
          first
            | (rw [show (8 : Int32) = nI 8 from rfl, nI_leI (by decide) (by omega)] at c_38; omega)
            | (have h9 := (lv_z (hr1.drop (k := n))).mp ((c0_le ((LW.mono hr1.drop (by decide : 8 ≤ 12)).lt63 (Nat.le_refl _))).mp c_45)
               have h10 := congrArg List.length h9
               rw [List.length_drop] at h10
               simp only [List.length_nil] at h10; omega)
        rw [hn] at hrow
        exact z_to (fin G' hrow) ⟨rfl, rfl, trivial⟩
      · refine z_lload g dX10_countEdits_41 rfl ?_
        refine z_lconst (v := 0) g dX10_countEdits_43 (by decide) ?_
        refine z_lcmp g dX10_countEdits_44 ?_
        refine z_if_le (tgt := 73) g dX10_countEdits_45 (by decide) (fun c_45 => ?_) (fun c_45 => ?_)
        · have hn : n = r1.length := by
            first
              | (rw [show (8 : Int32) = nI 8 from rfl, nI_leI (by decide) (by omega)] at c_38; omega)
              | (have h9 := (lv_z (hr1.drop (k := n))).mp ((c0_le ((LW.mono hr1.drop (by decide : 8 ≤ 12)).lt63 (Nat.le_refl _))).mp c_45)
                 have h10 := congrArg List.length h9
                 rw [List.length_drop] at h10
                 simp only [List.length_nil] at h10; omega)
          rw [hn] at hrow
          exact z_to (fin G' hrow) ⟨rfl, rfl, trivial⟩
        have hn8 : n < r1.length := by
          rcases Nat.lt_or_ge n r1.length with z | z
          · exact z
          · exact absurd ((c0_le (by rw [List.drop_of_length_le z]; decide)).mpr (by rw [List.drop_of_length_le z]; rfl)) c_45
        obtain ⟨y, hx1⟩ : ∃ y, r1[n]? = some y := ⟨r1[n], List.getElem?_eq_getElem hn8⟩
        have hx : (r1[n]?).getD 0 = y := by rw [hx1]; rfl
        have hy26 := hr1.2 y (List.mem_of_getElem? hx1)
        have hmm := lv_dmod hr1 n
        have hm63 : lv (r1.drop n) < 2 ^ 63 := (LW.mono hr1.drop (by decide : 8 ≤ 12)).lt63 (Nat.le_refl _)
        have hadd := k_addE (xE X) M k11 re ke le r2 hr2 y hy26.2 (lvD r1 r2.reverse n) (lvD r1 r2.reverse (n + 1)) (fun i hi => by have := lvD_le r1 r2.reverse (n := n) (i := i); rw [List.length_reverse] at this; omega) (fun i hi => by have := lvD_le r1 r2.reverse (n := n + 1) (i := i); rw [List.length_reverse] at this; omega) (by rw [lvD_n0 _ _ (by omega), lvD_n0 _ _ (by omega)]) (fun i z hz => by
          obtain ⟨q1, q2⟩ := List.getElem?_eq_some_iff.mp hz
          exact lvD_s hx1 (by rw [List.length_reverse]; omega) (by rw [List.length_reverse, List.getElem?_reverse (by omega), show r2.length - 1 - (r2.length - (i + 1)) = i by omega]; exact hz)) G' hrow
        refine z_aload_n g dX10_countEdits_48 rfl ?_
        refine z_lload g dX10_countEdits_49 rfl ?_
        refine z_ldc2 g dX10_countEdits_51 kc_X10_295 ?_
        refine z_lrem g dX10_countEdits_54 (by decide) ?_
        rw [rem27 hm63, hmm.1, hx]
        refine z_lload_n g dX10_countEdits_55 rfl ?_
        refine z_callV g _ _ cv_X10_419 (hadd) (by assumption) (by decide) rfl (by rw [hR]; decide) (by rw [hR]; decide) (by rw [hR]; decide) (Nat.le_of_ble_eq_true rfl) rfl dX10_countEdits_56 (fun _ _ h => False.elim h) (fun r_56 M_56 h_56 => ?_)
        obtain ⟨rfl, G9, rfl, h9⟩ := h_56
        refine z_lload g dX10_countEdits_59 rfl ?_
        refine z_ldc2 g dX10_countEdits_61 kc_X10_295 ?_
        refine z_ldiv g dX10_countEdits_64 (by decide) ?_
        rw [div27 hm63, hmm.2]
        refine z_lstore g dX10_countEdits_65 (by rw [hN]; decide) ?_
        refine z_iinc1 g dX10_countEdits_67 rfl (by rw [hN]; decide) ?_
        refine z_goto (tgt := 34) g dX10_countEdits_70 (by decide) ?_
        rw [nI_s]
        exact z_to (ih (k - 1) (by omega) (n + 1) G9 (by omega) (by omega) h9) ⟨rfl, rfl, rfl, rfl, trivial⟩
  have mid : ∀ (G' : Nat → Int32) (hG : ∀ i, i < 9 → G' i = nI i), Z X (rowI M e G') 0 0 28 [(0, .ref x), (1, .long (lN (lv r1))), (3, .long (lN (lv r2)))] [] := by
    intro G' hG
    refine z_lload_n g dX10_countEdits_28 rfl ?_
    refine z_lstore g dX10_countEdits_29 (by rw [hN]; decide) ?_
    refine z_iconst (v := 0) g dX10_countEdits_31 (by decide) ?_
    refine z_istore g dX10_countEdits_32 (by rw [hN]; decide) ?_
    refine z_to (loop2 8 0 G' rfl (Nat.zero_le _) (fun i hi => by rw [hG i (by omega), lvD_0 _ _ (by rw [List.length_reverse]; exact hi)])) ⟨rfl, rfl, rfl, rfl, trivial⟩
  have loop1 : ∀ (k j : Nat) (G' : Nat → Int32) (hk : k + j = 9) (hlo : ∀ i, i < j → G' i = nI i), Z X (rowI M e G') 0 0 3 [(0, .ref x), (1, .long (lN (lv r1))), (3, .long (lN (lv r2))), (5, .int (nI j))] [] := by
    intro k
    induction k using Nat.strongRecOn with
    | _ k ih =>
      intro j G' hk hlo
      refine z_iload g dX10_countEdits_3 rfl ?_
      refine z_aload_n g dX10_countEdits_5 rfl ?_
      refine z_getR g fl_X10_45 k11 (by decide) rfl re dX10_countEdits_6 ?_
      refine z_alenIk (k := 177) g ke (by decide) dX10_countEdits_9 ?_
      rw [show ln (rowI M e G') e = 9 from le]
      refine z_icmp_ge (tgt := 28) g dX10_countEdits_10 (by decide) (fun c_10 => ?_) (fun c_10 => ?_)
      · rw [nI_leI (by decide) (by omega)] at c_10
        exact z_to (mid G' (fun i hi => hlo i (by omega))) ⟨rfl, rfl, rfl, trivial⟩
      have h10 : j < 9 := by rw [nI_leI (by decide) (by omega)] at c_10; omega
      refine z_aload_n g dX10_countEdits_13 rfl ?_
      refine z_getR g fl_X10_45 k11 (by decide) rfl re dX10_countEdits_14 ?_
      refine z_iload g dX10_countEdits_17 rfl ?_
      refine z_iload g dX10_countEdits_19 rfl ?_
      refine z_iastk (k := 177) g ke (by decide) (vp_in_nI (by show _ < ln M e; omega) (by show ln M e < _; omega)) dX10_countEdits_21 ?_
      rw [nI_clamp (by omega), sI_row, rowI_s, rowI_rowI]
      refine z_iinc1 g dX10_countEdits_22 rfl (by rw [hN]; decide) ?_
      refine z_goto (tgt := 3) g dX10_countEdits_25 (by decide) ?_
      rw [nI_s]
      refine z_to (ih (k - 1) (by omega) (j + 1) (pu G' j (nI j)) (by omega) (fun i hi => ?_)) ⟨rfl, rfl, rfl, rfl, trivial⟩
      unfold pu
      by_cases e : i = j
      · rw [if_pos e, e]
      · rw [if_neg e]; exact hlo i (by omega)
  refine z_iconst (v := 0) g dX10_countEdits_0 (by decide) ?_
  refine z_istore g dX10_countEdits_1 (by rw [hN]; decide) ?_
  exact z_to (loop1 9 0 G rfl (fun i hi => absurd hi (Nat.not_lt_zero i))) ⟨rfl, rfl, rfl, rfl, trivial⟩
