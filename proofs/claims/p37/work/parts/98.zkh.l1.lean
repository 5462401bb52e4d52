/-! ===== the law: low, cell, word, isWord (printed by gen/mk_l1.py) ===== -/
def lowA (v n : Int32) : Int32 := (v &&& 2147483647) - (v &&& 2147483647) / n * n
theorem low_ex (v : Int32) {n : Nat} (h0 : 0 < n) (h : n < 2 ^ 31) : ∃ j, j < n ∧ lowA v (nI n) = nI j := by
  unfold lowA
  rw [pk_and v (m := 2147483647) 31 (by decide)]
  exact ⟨_, Nat.mod_lt _ h0, pk_rem (Nat.mod_lt _ (by decide)) h0 h⟩
set_option maxHeartbeats 4000000 in
set_option maxRecDepth 100000 in
theorem c_low (E : Ev) (M : Mm) (v n : Int32) (hn : ¬ n = 0) : CT E yL_low cL_low 2 (some .int) 1 0 0 [.int v, .int n] M (ansI (lowA v n) M) noX := by
  refine CT.of rfl (Nat.le_of_ble_eq_true rfl) (fun X g hrt hno hE hN hR hI => ?_)
  subst hE
  refine z_iload_n g dL_low_0 rfl ?_
  refine z_ldc g dL_low_1 kc_L_7 ?_
  refine z_iand g dL_low_3 ?_
  refine z_iload_n g dL_low_4 rfl ?_
  refine z_irem g dL_low_5 hn ?_
  exact z_iret g hrt rfl (by decide) (by decide) dL_low_6 ⟨rfl, rfl⟩
/-- the script's number at k, behind its end another one -/
def cellA (L : Nat) (xs : Nat → Int32) (k : Nat) : Int32 := if k < L then xs k else 7919 * (nI k + 1439) * (nI k + 3911)
set_option maxHeartbeats 4000000 in
set_option maxRecDepth 100000 in
theorem c_cell (E : Ev) {b L : Nat} {xs : Nat → Int32} (hL : L ≤ 260) (M : Mm) (k : Nat) (hk : k < 1000) : CTS E b L xs yL_cell cL_cell 2 (some .int) 1 0 0 [.ref b, .int (nI k)] M (ansI (cellA L xs k) M) noX := by
  refine CTS.of rfl (Nat.le_of_ble_eq_true rfl) (fun X g hrt hno hE hN hR hSc hI => ?_)
  subst hE
  refine z_iload_n g dL_cell_0 rfl ?_
  refine z_aload_n g dL_cell_1 rfl ?_
  refine z_slen g hSc dL_cell_2 ?_
  refine z_icmp_ge (tgt := 12) g dL_cell_3 (by decide) (fun c_3 => ?_) (fun c_3 => ?_)
  · rw [nI_leI (by omega) (by omega)] at c_3
    refine z_sipush (v := 7919) g dL_cell_12 (by decide) ?_
    refine z_iload_n g dL_cell_15 rfl ?_
    refine z_sipush (v := 1439) g dL_cell_16 (by decide) ?_
    refine z_iadd g dL_cell_19 ?_
    refine z_imul g dL_cell_20 ?_
    refine z_iload_n g dL_cell_21 rfl ?_
    refine z_sipush (v := 3911) g dL_cell_22 (by decide) ?_
    refine z_iadd g dL_cell_25 ?_
    refine z_imul g dL_cell_26 ?_
    exact z_iret g hrt rfl (by decide) (by decide) dL_cell_27 ⟨by unfold cellA; rw [if_neg (by omega)], rfl⟩
  · rw [nI_leI (by omega) (by omega)] at c_3
    refine z_aload_n g dL_cell_6 rfl ?_
    refine z_iload_n g dL_cell_7 rfl ?_
    refine z_sld g hSc (vp_in_nI (by omega) (by omega)) dL_cell_8 ?_
    rw [nI_clamp (show k < 2 ^ 31 by omega)]
    refine z_goto (tgt := 27) g dL_cell_9 (by decide) ?_
    exact z_iret g hrt rfl (by decide) (by decide) dL_cell_27 ⟨by unfold cellA; rw [if_pos (by omega)], rfl⟩
def wdg (v : Int32) (o : Bool) (n : Nat) : Int32 := if o = true then lowA (v >>> ((nI n + 5) &&& 31)) 27 else (1 : Int32) + lowA (v >>> ((2 * nI n + 5) &&& 31)) 4
def wordN (v : Int32) (o : Bool) : Nat → Int64
  | 0 => 0
  | n + 1 => 27 * wordN v o n + (wdg v o n).toInt64
def manyA2 (v : Int32) (o : Bool) : Int32 := if o = true then lowA (v >>> (3 &&& 31)) 10 else (1 : Int32) + lowA (v >>> (3 &&& 31)) 4
def wordA (v : Int32) (o : Bool) : Int64 := wordN v o (manyA2 v o).toNatClampNeg
theorem many_ex (v : Int32) (o : Bool) : ∃ m, m ≤ 10 ∧ manyA2 v o = nI m := by
  unfold manyA2
  cases o
  · obtain ⟨j, h1, h2⟩ := low_ex (v >>> (3 &&& 31)) (n := 4) (by decide) (by decide)
    refine ⟨1 + j, by omega, ?_⟩
    rw [if_neg (by decide), show (4 : Int32) = nI 4 from rfl, h2, show (1 : Int32) = nI 1 from rfl, nI_add]
  · obtain ⟨j, h1, h2⟩ := low_ex (v >>> (3 &&& 31)) (n := 10) (by decide) (by decide)
    exact ⟨j, by omega, by rw [if_pos rfl, show (10 : Int32) = nI 10 from rfl, h2]⟩
set_option maxHeartbeats 4000000 in
set_option maxRecDepth 100000 in
theorem c_word0 (E : Ev) (M : Mm) (v : Int32) : CT E yL_word cL_word 6 (some .long) 2 0 0 [.int v, .int 0] M (ansL (wordA v false) M) noX := by
  refine CT.of rfl (Nat.le_of_ble_eq_true rfl) (fun X g hrt hno hE hN hR hI => ?_)
  subst hE
  obtain ⟨m, hm10, hm⟩ := many_ex v false
  have hw : wordA v false = wordN v false m := by unfold wordA; rw [hm, nI_clamp (by omega)]
  have loop : ∀ (k n : Nat) (hk : k + n = m), Z X M 0 0 30 [(0, .int v), (1, .int 0), (2, .int (nI m)), (3, .long (wordN v false n)), (5, .int (nI n))] [] := by
    intro k
    induction k using Nat.strongRecOn with
    | _ k ih =>
      intro n hk
      refine z_iload g dL_word_30 rfl ?_
      refine z_iload_n g dL_word_32 rfl ?_
      refine z_icmp_ge (tgt := 82) g dL_word_33 (by decide) (fun c_33 => ?_) (fun c_33 => ?_)
      · refine z_lload_n g dL_word_82 rfl ?_
        exact z_lret g hrt (by decide) (by decide) dL_word_83 ⟨by rw [hw, show n = m by rw [nI_leI (by omega) (by omega)] at c_33; omega], rfl⟩
      · refine z_ldc2 g dL_word_36 kc_L_143 ?_
        refine z_lload_n g dL_word_39 rfl ?_
        refine z_lmul g dL_word_40 ?_
        refine z_iload_n g dL_word_41 rfl ?_
        refine z_if_eq (tgt := 59) g dL_word_42 (by decide) (fun _ => ?_) (fun c_42 => absurd rfl c_42)
        refine z_iconst (v := 1) g dL_word_59 (by decide) ?_
        refine z_iload_n g dL_word_60 rfl ?_
        refine z_iconst (v := 2) g dL_word_61 (by decide) ?_
        refine z_iload g dL_word_62 rfl ?_
        refine z_imul g dL_word_64 ?_
        refine z_iconst (v := 5) g dL_word_65 (by decide) ?_
        refine z_iadd g dL_word_66 ?_
        refine z_ishr g dL_word_67 ?_
        refine z_iconst (v := 4) g dL_word_68 (by decide) ?_
        refine z_callS g _ _ cs_L_140 (c_low _ M _ 4 (by decide)) rfl (by rw [hR]; decide) (by rw [hR]; decide) (by rw [hR]; decide) (Nat.le_of_ble_eq_true rfl) rfl dL_word_69 (fun _ _ h => False.elim h) (fun r_69 M_69 h_69 => ?_)
        obtain ⟨rfl, rfl⟩ := h_69
        refine z_iadd g dL_word_72 ?_
        refine z_i2l g dL_word_73 ?_
        refine z_ladd g dL_word_74 ?_
        refine z_lstore_n g dL_word_75 (by rw [hN]; decide) ?_
        refine z_iinc1 g dL_word_76 rfl (by rw [hN]; decide) ?_
        refine z_goto (tgt := 30) g dL_word_79 (by decide) ?_
        rw [nI_s]
        have h33 : n < m := by rw [nI_leI (by omega) (by omega)] at c_33; omega
        exact z_to (ih (k - 1) (by omega) (n + 1) (by omega)) ⟨rfl, rfl, rfl, rfl, rfl, trivial⟩
  refine z_iload_n g dL_word_0 rfl ?_
  refine z_if_eq (tgt := 15) g dL_word_1 (by decide) (fun _ => ?_) (fun c_1 => absurd c_1 (by decide))
  refine z_iconst (v := 1) g dL_word_15 (by decide) ?_
  refine z_iload_n g dL_word_16 rfl ?_
  refine z_iconst (v := 3) g dL_word_17 (by decide) ?_
  refine z_ishr g dL_word_18 ?_
  refine z_iconst (v := 4) g dL_word_19 (by decide) ?_
  refine z_callS g _ _ cs_L_140 (c_low _ M _ 4 (by decide)) rfl (by rw [hR]; decide) (by rw [hR]; decide) (by rw [hR]; decide) (Nat.le_of_ble_eq_true rfl) rfl dL_word_20 (fun _ _ h => False.elim h) (fun r_20 M_20 h_20 => ?_)
  obtain ⟨rfl, rfl⟩ := h_20
  refine z_iadd g dL_word_23 ?_
  rw [show ((1 : Int32) + lowA (v >>> (3 &&& 31)) 4 : Int32) = nI m from hm]
  refine z_istore_n g dL_word_24 (by rw [hN]; decide) ?_
  refine z_lconst (v := 0) g dL_word_25 (by decide) ?_
  refine z_lstore_n g dL_word_26 (by rw [hN]; decide) ?_
  refine z_iconst (v := 0) g dL_word_27 (by decide) ?_
  refine z_istore g dL_word_28 (by rw [hN]; decide) ?_
  exact z_to (loop m 0 rfl) ⟨rfl, rfl, rfl, rfl, rfl, trivial⟩
set_option maxHeartbeats 4000000 in
set_option maxRecDepth 100000 in
theorem c_word1 (E : Ev) (M : Mm) (v : Int32) : CT E yL_word cL_word 6 (some .long) 2 0 0 [.int v, .int 1] M (ansL (wordA v true) M) noX := by
  refine CT.of rfl (Nat.le_of_ble_eq_true rfl) (fun X g hrt hno hE hN hR hI => ?_)
  subst hE
  obtain ⟨m, hm10, hm⟩ := many_ex v true
  have hw : wordA v true = wordN v true m := by unfold wordA; rw [hm, nI_clamp (by omega)]
  have loop : ∀ (k n : Nat) (hk : k + n = m), Z X M 0 0 30 [(0, .int v), (1, .int 1), (2, .int (nI m)), (3, .long (wordN v true n)), (5, .int (nI n))] [] := by
    intro k
    induction k using Nat.strongRecOn with
    | _ k ih =>
      intro n hk
      refine z_iload g dL_word_30 rfl ?_
      refine z_iload_n g dL_word_32 rfl ?_
      refine z_icmp_ge (tgt := 82) g dL_word_33 (by decide) (fun c_33 => ?_) (fun c_33 => ?_)
      · refine z_lload_n g dL_word_82 rfl ?_
        exact z_lret g hrt (by decide) (by decide) dL_word_83 ⟨by rw [hw, show n = m by rw [nI_leI (by omega) (by omega)] at c_33; omega], rfl⟩
      · refine z_ldc2 g dL_word_36 kc_L_143 ?_
        refine z_lload_n g dL_word_39 rfl ?_
        refine z_lmul g dL_word_40 ?_
        refine z_iload_n g dL_word_41 rfl ?_
        refine z_if_eq (tgt := 59) g dL_word_42 (by decide) (fun c_42 => absurd c_42 (by decide)) (fun _ => ?_)
        refine z_iload_n g dL_word_45 rfl ?_
        refine z_iload g dL_word_46 rfl ?_
        refine z_iconst (v := 5) g dL_word_48 (by decide) ?_
        refine z_iadd g dL_word_49 ?_
        refine z_ishr g dL_word_50 ?_
        refine z_bipush (v := 27) g dL_word_51 (by decide) ?_
        refine z_callS g _ _ cs_L_140 (c_low _ M _ 27 (by decide)) rfl (by rw [hR]; decide) (by rw [hR]; decide) (by rw [hR]; decide) (Nat.le_of_ble_eq_true rfl) rfl dL_word_53 (fun _ _ h => False.elim h) (fun r_53 M_53 h_53 => ?_)
        obtain ⟨rfl, rfl⟩ := h_53
        refine z_goto (tgt := 73) g dL_word_56 (by decide) ?_
        refine z_i2l g dL_word_73 ?_
        refine z_ladd g dL_word_74 ?_
        refine z_lstore_n g dL_word_75 (by rw [hN]; decide) ?_
        refine z_iinc1 g dL_word_76 rfl (by rw [hN]; decide) ?_
        refine z_goto (tgt := 30) g dL_word_79 (by decide) ?_
        rw [nI_s]
        have h33 : n < m := by rw [nI_leI (by omega) (by omega)] at c_33; omega
        exact z_to (ih (k - 1) (by omega) (n + 1) (by omega)) ⟨rfl, rfl, rfl, rfl, rfl, trivial⟩
  refine z_iload_n g dL_word_0 rfl ?_
  refine z_if_eq (tgt := 15) g dL_word_1 (by decide) (fun c_1 => absurd c_1 (by decide)) (fun _ => ?_)
  refine z_iload_n g dL_word_4 rfl ?_
  refine z_iconst (v := 3) g dL_word_5 (by decide) ?_
  refine z_ishr g dL_word_6 ?_
  refine z_bipush (v := 10) g dL_word_7 (by decide) ?_
  refine z_callS g _ _ cs_L_140 (c_low _ M _ 10 (by decide)) rfl (by rw [hR]; decide) (by rw [hR]; decide) (by rw [hR]; decide) (Nat.le_of_ble_eq_true rfl) rfl dL_word_9 (fun _ _ h => False.elim h) (fun r_9 M_9 h_9 => ?_)
  obtain ⟨rfl, rfl⟩ := h_9
  refine z_goto (tgt := 24) g dL_word_12 (by decide) ?_
  rw [show (lowA (v >>> (3 &&& 31)) 10 : Int32) = nI m from hm]
  refine z_istore_n g dL_word_24 (by rw [hN]; decide) ?_
  refine z_lconst (v := 0) g dL_word_25 (by decide) ?_
  refine z_lstore_n g dL_word_26 (by rw [hN]; decide) ?_
  refine z_iconst (v := 0) g dL_word_27 (by decide) ?_
  refine z_istore g dL_word_28 (by rw [hN]; decide) ?_
  exact z_to (loop m 0 rfl) ⟨rfl, rfl, rfl, rfl, rfl, trivial⟩
set_option maxHeartbeats 4000000 in
set_option maxRecDepth 100000 in
theorem c_LisW (E : Ev) (M : Mm) (w : Int64) (hw : JW w) : CT E yL_isWord cL_isWord 6 (some .boolean) 1 0 0 [.long w] M (ansI 1 M) noX := by
  refine CT.of rfl (Nat.le_of_ble_eq_true rfl) (fun X g hrt hno hE hN hR hI => ?_)
  subst hE
  obtain ⟨u0, h0u, rfl⟩ := hw
  have loop : ∀ (n : Nat) (u : List Nat) (q : Nat) (hn : n = u.length) (hu : LW 12 u) (hq : q + u.length ≤ 12), Z X M 0 0 17 [(0, .long (lN (lv u0))), (2, .int 1), (3, .int (nI q)), (4, .long (lN (lv u)))] [] := by
    intro n
    induction n using Nat.strongRecOn with
    | _ n ih =>
      intro u q hn hu hq
      refine z_lload g dL_isWord_17 rfl ?_
      refine z_lconst (v := 0) g dL_isWord_19 (by decide) ?_
      refine z_lcmp g dL_isWord_20 ?_
      rcases u with _ | ⟨x, u⟩
      · refine z_if_le (tgt := 59) g dL_isWord_21 (by decide) (fun _ => ?_) (fun h => absurd ((lg_cmp_le _ _).mpr (by decide)) h)
        refine z_iload_n g dL_isWord_59 rfl ?_
        refine z_if_eq (tgt := 73) g dL_isWord_60 (by decide) (fun c_60 => absurd c_60 (by decide)) (fun _ => ?_)
        refine z_iload_n g dL_isWord_63 rfl ?_
        refine z_bipush (v := 12) g dL_isWord_64 (by decide) ?_
        refine z_icmp_gt (tgt := 73) g dL_isWord_66 (by decide) (fun c_66 => (by simp at hq; rw [nI12, nI_ltI (by omega) (by omega)] at c_66; omega)) (fun c_66 => ?_)
        refine z_iconst (v := 1) g dL_isWord_69 (by decide) ?_
        refine z_goto (tgt := 74) g dL_isWord_70 (by decide) ?_
        exact z_iret g hrt (by decide) (by decide) (by decide) dL_isWord_74 ⟨rfl, rfl⟩
      have hm63 : lv (x :: u) < 2 ^ 63 := hu.lt63 (Nat.le_refl _)
      have hpos := lv_pos (r := u) hu.hd.1
      refine z_if_le (tgt := 59) g dL_isWord_21 (by decide) (fun c_21 => ?_) (fun _ => ?_)
      · exfalso
        have h0 := (c0_le hm63).mp c_21
        omega
      refine z_iload_n g dL_isWord_24 rfl ?_
      refine z_if_eq (tgt := 59) g dL_isWord_25 (by decide) (fun c_25 => absurd c_25 (by decide)) (fun _ => ?_)
      refine z_lload g dL_isWord_28 rfl ?_
      refine z_ldc2 g dL_isWord_30 kc_L_143 ?_
      refine z_lrem g dL_isWord_33 (by decide) ?_
      refine z_lconst (v := 0) g dL_isWord_34 (by decide) ?_
      refine z_lcmp g dL_isWord_35 ?_
      rw [rem27 hm63, lv_mod hu.hd.2]
      refine z_if_le (tgt := 43) g dL_isWord_36 (by decide) (fun c_36 => ?_) (fun _ => ?_)
      · exfalso
        have h0 := (c0_le (m := x) (by have := hu.hd.2; omega)).mp c_36
        have := hu.hd.1; omega
      refine z_iconst (v := 1) g dL_isWord_39 (by decide) ?_
      refine z_goto (tgt := 44) g dL_isWord_40 (by decide) ?_
      refine z_istore_n g dL_isWord_44 (by rw [hN]; decide) ?_
      refine z_iinc1 g dL_isWord_45 rfl (by rw [hN]; decide) ?_
      refine z_lload g dL_isWord_48 rfl ?_
      refine z_ldc2 g dL_isWord_50 kc_L_143 ?_
      refine z_ldiv g dL_isWord_53 (by decide) ?_
      rw [div27 hm63, lv_div hu.hd.2]
      refine z_lstore g dL_isWord_54 (by rw [hN]; decide) ?_
      refine z_goto (tgt := 17) g dL_isWord_56 (by decide) ?_
      rw [nI_s]
      exact z_to (ih u.length (by simp at hn; omega) u (q + 1) rfl (LW.mono hu.tl (by decide)) (by have := hq; simp at this ⊢; omega)) ⟨rfl, rfl, rfl, rfl, trivial⟩
  refine z_lload_n g dL_isWord_0 rfl ?_
  refine z_lconst (v := 0) g dL_isWord_1 (by decide) ?_
  refine z_lcmp g dL_isWord_2 ?_
  refine z_if_lt (tgt := 10) g dL_isWord_3 (by decide) (fun c_3 => ?_) (fun _ => ?_)
  · exfalso
    have h0 := (lg_cmp_lt _ _).mp c_3
    rw [show (0 : Int64) = lN 0 from rfl, pk_lLT (h0u.lt63 (Nat.le_refl _)) (by decide)] at h0
    omega
  refine z_iconst (v := 1) g dL_isWord_6 (by decide) ?_
  refine z_goto (tgt := 11) g dL_isWord_7 (by decide) ?_
  refine z_istore_n g dL_isWord_11 (by rw [hN]; decide) ?_
  refine z_iconst (v := 0) g dL_isWord_12 (by decide) ?_
  refine z_istore_n g dL_isWord_13 (by rw [hN]; decide) ?_
  refine z_lload_n g dL_isWord_14 rfl ?_
  refine z_lstore g dL_isWord_15 (by rw [hN]; decide) ?_
  exact z_to (loop u0.length u0 0 rfl h0u (by have := h0u.1; omega)) ⟨rfl, rfl, rfl, rfl, trivial⟩
