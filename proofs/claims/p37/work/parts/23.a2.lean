theorem nI_s (a : Nat) : nI a + 1 = nI (a + 1) := nI_add a 1
theorem nI12 : (12 : Int32) = nI 12 := rfl
theorem lgt_of {w : Int64} (h : ¬ lg_cmp w 0 ≤ 0) : 0 < w := Int64.not_le.mp (fun z => h ((lg_cmp_le _ _).mpr z))
set_option maxHeartbeats 4000000 in
set_option maxRecDepth 100000 in
theorem c_isWd (E : Ev) (M : Mm) (w : Int64) (K : Nat) (hK : K ≤ 12) : CT E yX10_isWord cX10_isWord 6 (some .boolean) 1 0 0 [.long w, .int (nI K)] M (ansI (b2i (isWd K w)) M) noX := by
  refine CT.of rfl (Nat.le_of_ble_eq_true rfl) (fun X g hrt hno hE hN hR hI => ?_)
  subst hE
  by_cases hw : 0 < w
  rotate_left
  · refine z_lload_n g dX10_isWord_0 rfl ?_
    refine z_lstore_n g dX10_isWord_1 (by rw [hN]; decide) ?_
    refine z_iconst (v := 0) g dX10_isWord_2 (by decide) ?_
    refine z_istore g dX10_isWord_3 (by rw [hN]; decide) ?_
    refine z_iload g dX10_isWord_5 rfl ?_
    refine z_iload_n g dX10_isWord_7 rfl ?_
    refine z_icmp_ge (tgt := 41) g dX10_isWord_8 (by decide) (fun c_8 => ?_) (fun c_8 => ?_)
    · refine z_lload_n g dX10_isWord_41 rfl ?_
      refine z_lconst (v := 0) g dX10_isWord_42 (by decide) ?_
      refine z_lcmp g dX10_isWord_43 ?_
      refine z_if_le (tgt := 57) g dX10_isWord_44 (by decide) (fun c_44 => ?_) (fun c_44 => (by exact absurd (lgt_of c_44) hw))
      refine z_iconst (v := 0) g dX10_isWord_57 (by decide) ?_
      exact z_iret g hrt (by decide) (by decide) (by decide) dX10_isWord_58 ⟨by rw [show isWd K w = false from (by unfold isWd; rw [decide_eq_false hw]; rfl)]; rfl, rfl⟩
    · refine z_lload_n g dX10_isWord_11 rfl ?_
      refine z_lconst (v := 0) g dX10_isWord_12 (by decide) ?_
      refine z_lcmp g dX10_isWord_13 ?_
      refine z_if_le (tgt := 41) g dX10_isWord_14 (by decide) (fun c_14 => ?_) (fun c_14 => (by exact absurd (lgt_of c_14) hw))
      refine z_lload_n g dX10_isWord_41 rfl ?_
      refine z_lconst (v := 0) g dX10_isWord_42 (by decide) ?_
      refine z_lcmp g dX10_isWord_43 ?_
      refine z_if_le (tgt := 57) g dX10_isWord_44 (by decide) (fun c_44 => ?_) (fun c_44 => (by exact absurd (lgt_of c_44) hw))
      refine z_iconst (v := 0) g dX10_isWord_57 (by decide) ?_
      exact z_iret g hrt (by decide) (by decide) (by decide) dX10_isWord_58 ⟨by rw [show isWd K w = false from (by unfold isWd; rw [decide_eq_false hw]; rfl)]; rfl, rfl⟩
  have fin : ∀ (m : Nat) (hm : m < 2 ^ 63) (hf : decide (m = 0) = isWd K w), Z X M 0 0 41 [(0, .long w), (3, .long (lN m))] [] := by
    intro m hm hf
    refine z_lload_n g dX10_isWord_41 rfl ?_
    refine z_lconst (v := 0) g dX10_isWord_42 (by decide) ?_
    refine z_lcmp g dX10_isWord_43 ?_
    refine z_if_le (tgt := 57) g dX10_isWord_44 (by decide) (fun c_44 => (by exact absurd ((lg_cmp_le _ _).mp c_44) (by rw [Int64.not_le]; exact hw))) (fun c_44 => ?_)
    refine z_lload_n g dX10_isWord_47 rfl ?_
    refine z_lconst (v := 0) g dX10_isWord_48 (by decide) ?_
    refine z_lcmp g dX10_isWord_49 ?_
    refine z_if_ne (tgt := 57) g dX10_isWord_50 (by decide) (fun c_50 => ?_) (fun c_50 => ?_)
    · refine z_iconst (v := 0) g dX10_isWord_57 (by decide) ?_
      exact z_iret g hrt (by decide) (by decide) (by decide) dX10_isWord_58 ⟨by rw [← hf]; first | (rw [decide_eq_true ((c0_eq hm).mp c_50)]; rfl) | (rw [decide_eq_false (fun z => c_50 ((c0_eq hm).mpr z))]; rfl), rfl⟩
    · refine z_iconst (v := 1) g dX10_isWord_53 (by decide) ?_
      refine z_goto (tgt := 58) g dX10_isWord_54 (by decide) ?_
      exact z_iret g hrt (by decide) (by decide) (by decide) dX10_isWord_58 ⟨by rw [← hf]; first | (rw [decide_eq_true ((c0_eq hm).mp c_50)]; rfl) | (rw [decide_eq_false (fun z => c_50 ((c0_eq hm).mpr z))]; rfl), rfl⟩
  have loop : ∀ (k j m : Nat) (hk : k + j = K) (hm : m < 2 ^ 63) (hf : wN k m = isWd K w), Z X M 0 0 5 [(0, .long w), (2, .int (nI K)), (3, .long (lN m)), (5, .int (nI j))] [] := by
    intro k
    induction k using Nat.strongRecOn with
    | _ k ih =>
      intro j m hk hm hf
      refine z_iload g dX10_isWord_5 rfl ?_
      refine z_iload_n g dX10_isWord_7 rfl ?_
      refine z_icmp_ge (tgt := 41) g dX10_isWord_8 (by decide) (fun c_8 => ?_) (fun c_8 => ?_)
      · refine z_loc (L' := [(0, .long w), (3, .long (lN m))]) ⟨rfl, rfl, trivial⟩ (fin m hm ?_)
        rw [← hf]
        first
          | (have h8 : j = K := by rw [nI_leI (by omega) (by omega)] at c_8; omega
             rw [show k = 0 by omega]; rfl)
          | (have h14 : m = 0 := (c0_le hm).mp c_14
             subst h14; cases k <;> rfl)
      · refine z_lload_n g dX10_isWord_11 rfl ?_
        refine z_lconst (v := 0) g dX10_isWord_12 (by decide) ?_
        refine z_lcmp g dX10_isWord_13 ?_
        refine z_if_le (tgt := 41) g dX10_isWord_14 (by decide) (fun c_14 => ?_) (fun c_14 => ?_)
        · refine z_loc (L' := [(0, .long w), (3, .long (lN m))]) ⟨rfl, rfl, trivial⟩ (fin m hm ?_)
          rw [← hf]
          first
            | (have h8 : j = K := by rw [nI_leI (by omega) (by omega)] at c_8; omega
               rw [show k = 0 by omega]; rfl)
            | (have h14 : m = 0 := (c0_le hm).mp c_14
               subst h14; cases k <;> rfl)
        · refine z_lload_n g dX10_isWord_17 rfl ?_
          refine z_ldc2 g dX10_isWord_18 kc_X10_295 ?_
          refine z_lrem g dX10_isWord_21 (by decide) ?_
          refine z_lconst (v := 0) g dX10_isWord_22 (by decide) ?_
          refine z_lcmp g dX10_isWord_23 ?_
          refine z_if_ne (tgt := 29) g dX10_isWord_24 (by decide) (fun c_24 => ?_) (fun c_24 => ?_)
          · refine z_lload_n g dX10_isWord_29 rfl ?_
            refine z_ldc2 g dX10_isWord_30 kc_X10_295 ?_
            refine z_ldiv g dX10_isWord_33 (by decide) ?_
            refine z_lstore_n g dX10_isWord_34 (by rw [hN]; decide) ?_
            refine z_iinc1 g dX10_isWord_35 rfl (by rw [hN]; decide) ?_
            refine z_goto (tgt := 5) g dX10_isWord_38 (by decide) ?_
            rw [div27 hm]
            refine z_loc (L' := [(0, .long w), (2, .int (nI K)), (3, .long (lN (m / 27))), (5, .int (nI j + 1))]) ⟨rfl, rfl, rfl, rfl, trivial⟩ ?_
            rw [nI_s]
            have h8 : j < K := by rw [nI_leI (by omega) (by omega)] at c_8; omega
            have h14 : m ≠ 0 := fun z => c_14 ((c0_le hm).mpr z)
            have h24 : ¬ m % 27 = 0 := fun z => c_24 (by rw [rem27 hm]; exact (c0_eq (by omega)).mpr z)
            obtain ⟨k, rfl⟩ : ∃ k', k = k' + 1 := ⟨k - 1, by omega⟩
            refine ih k (by omega) (j + 1) (m / 27) (by omega) (by omega) ?_
            rw [← hf, wN, if_neg h14, if_neg h24]
          · refine z_iconst (v := 0) g dX10_isWord_27 (by decide) ?_
            exact z_iret g hrt (by decide) (by decide) (by decide) dX10_isWord_28 ⟨by
        have h14 : m ≠ 0 := fun z => c_14 ((c0_le hm).mpr z)
        have h24 : m % 27 = 0 := by rw [rem27 hm] at c_24; exact (c0_eq (by omega)).mp c_24
        have h8 : j < K := by rw [nI_leI (by omega) (by omega)] at c_8; omega
        obtain ⟨k, rfl⟩ : ∃ k', k = k' + 1 := ⟨k - 1, by omega⟩
        rw [← hf, wN, if_neg h14, if_pos h24]; rfl, rfl⟩
  refine z_lload_n g dX10_isWord_0 rfl ?_
  refine z_lstore_n g dX10_isWord_1 (by rw [hN]; decide) ?_
  refine z_iconst (v := 0) g dX10_isWord_2 (by decide) ?_
  refine z_istore g dX10_isWord_3 (by rw [hN]; decide) ?_
  refine z_loc (L' := [(0, .long w), (2, .int (nI K)), (3, .long w), (5, .int (nI 0))]) ⟨rfl, rfl, rfl, rfl, trivial⟩ ?_
  obtain ⟨m, h1, h2, h3, h4⟩ := lN_of w hw
  have h5 := loop K 0 m (by omega) h2 (by unfold isWd; rw [decide_eq_true hw, h4]; rfl)
  rw [← h3] at h5
  exact h5
theorem i2l_n {a : Nat} (h : a < 2 ^ 31) : (nI a).toInt64 = lN a := by
  apply Int64.toInt_inj.mp
  rw [Int32.toInt_toInt64, pk_lT (by omega)]
  exact Int32.toInt_ofNat_of_lt (by exact h)
theorem l2i_n (a : Nat) : (lN a).toInt32 = nI a := Int64.toInt32_ofNat' 
def wl (r : List Nat) (l : Nat) : List Nat := if l = 0 ∨ r.length = 12 then r else l :: r
theorem lv_ge : ∀ {r : List Nat}, (∀ x ∈ r, 1 ≤ x) → ∀ n, n < r.length → 27 ^ n ≤ lv r
  | [], _, n, h => absurd h (Nat.not_lt_zero n)
  | x :: r, hx, 0, _ => by have := hx x List.mem_cons_self; show 1 ≤ x + 27 * lv r; omega
  | x :: r, hx, n + 1, h => by
    have h1 := lv_ge (r := r) (fun y hy => hx y (List.mem_cons_of_mem _ hy)) n (by simp at h; omega)
    show 27 ^ (n + 1) ≤ x + 27 * lv r
    rw [Nat.pow_succ]; omega
theorem lv_12 {r : List Nat} (h : LW 12 r) : 5559060566555523 ≤ lv r ↔ r.length = 12 := by
  have e : (27 : Nat) ^ 11 = 5559060566555523 := by decide
  constructor
  · intro h1
    rcases Nat.lt_or_ge r.length 12 with z | z
    · have h2 := LW.lt (n := 11) (r := r) ⟨by omega, h.2⟩
      rw [e] at h2; omega
    · have := h.1; omega
  · intro h1
    have h2 := lv_ge (fun x hx => (h.2 x hx).1) 11 (by omega)
    rw [e] at h2; exact h2
theorem wl_LW {r : List Nat} {l : Nat} (h : LW 12 r) (hl : l ≤ 26) : LW 12 (wl r l) := by
  unfold wl
  split
  · exact h
  · rename_i c
    have := h.1
    refine ⟨by simp; omega, fun x hx => ?_⟩
    rcases List.mem_cons.mp hx with e | e
    · subst e; omega
    · exact h.2 x e
set_option maxHeartbeats 4000000 in
set_option maxRecDepth 100000 in
theorem c_turned (E : Ev) (M : Mm) (r : List Nat) (hr : LW 12 r) : CT E yX10_turned cX10_turned 7 (some .long) 1 0 0 [.long (lN (lv r))] M (ansL (lN (lv r.reverse)) M) noX := by
  refine CT.of rfl (Nat.le_of_ble_eq_true rfl) (fun X g hrt hno hE hN hR hI => ?_)
  subst hE
  have loop : ∀ (k j : Nat) (s t : List Nat) (hk : k = s.length) (hj : j ≤ 12) (hs : LW (12 - j) s) (hf : s.reverse ++ t = r.reverse), Z X M 0 0 8 [(2, .long (lN (lv s))), (4, .long (lN (lv t))), (6, .int (nI j))] [] := by
    intro k
    induction k using Nat.strongRecOn with
    | _ k ih =>
      intro j s t hk hj hs hf
      refine z_iload g dX10_turned_8 rfl ?_
      refine z_bipush (v := 12) g dX10_turned_10 (by decide) ?_
      refine z_icmp_ge (tgt := 47) g dX10_turned_12 (by decide) (fun c_12 => ?_) (fun c_12 => ?_)
      · have h8 : s = [] := by
          first
            | (rw [nI12, nI_leI (by omega) (by omega)] at c_12
               exact List.length_eq_zero_iff.mp (by have := hs.1; omega))
            | exact (lv_z hs).mp ((c0_le (LW.lt63 (n := 12) ⟨by have := hs.1; omega, hs.2⟩ (Nat.le_refl _))).mp c_18)
        rw [show t = r.reverse by rw [← hf, h8]; rfl]
        refine z_lload g dX10_turned_47 rfl ?_
        exact z_lret g hrt (by decide) (by decide) dX10_turned_49 ⟨rfl, rfl⟩
      · refine z_lload_n g dX10_turned_15 rfl ?_
        refine z_lconst (v := 0) g dX10_turned_16 (by decide) ?_
        refine z_lcmp g dX10_turned_17 ?_
        refine z_if_le (tgt := 47) g dX10_turned_18 (by decide) (fun c_18 => ?_) (fun c_18 => ?_)
        · have h8 : s = [] := by
            first
              | (rw [nI12, nI_leI (by omega) (by omega)] at c_12
                 exact List.length_eq_zero_iff.mp (by have := hs.1; omega))
              | exact (lv_z hs).mp ((c0_le (LW.lt63 (n := 12) ⟨by have := hs.1; omega, hs.2⟩ (Nat.le_refl _))).mp c_18)
          rw [show t = r.reverse by rw [← hf, h8]; rfl]
          refine z_lload g dX10_turned_47 rfl ?_
          exact z_lret g hrt (by decide) (by decide) dX10_turned_49 ⟨rfl, rfl⟩
        · refine z_lload g dX10_turned_21 rfl ?_
          refine z_ldc2 g dX10_turned_23 kc_X10_295 ?_
          refine z_lmul g dX10_turned_26 ?_
          refine z_lload_n g dX10_turned_27 rfl ?_
          refine z_ldc2 g dX10_turned_28 kc_X10_295 ?_
          refine z_lrem g dX10_turned_31 (by decide) ?_
          refine z_ladd g dX10_turned_32 ?_
          refine z_lstore g dX10_turned_33 (by rw [hN]; decide) ?_
          refine z_lload_n g dX10_turned_35 rfl ?_
          refine z_ldc2 g dX10_turned_36 kc_X10_295 ?_
          refine z_ldiv g dX10_turned_39 (by decide) ?_
          refine z_lstore_n g dX10_turned_40 (by rw [hN]; decide) ?_
          refine z_iinc1 g dX10_turned_41 rfl (by rw [hN]; decide) ?_
          refine z_goto (tgt := 8) g dX10_turned_44 (by decide) ?_
          obtain ⟨x, s, rfl⟩ : ∃ x s', s = x :: s' := by
            cases s with
            | nil => exact absurd ((c0_le (m := lv []) (by decide)).mpr rfl) c_18
            | cons x s => exact ⟨x, s, rfl⟩
          have hx := hs.2 x List.mem_cons_self
          have hls : lv (x :: s) < 2 ^ 63 := LW.lt63 (n := 12) ⟨by have := hs.1; omega, hs.2⟩ (Nat.le_refl _)
          rw [rem27 hls, div27 hls, lv_mod hx.2, lv_div hx.2, mul27, lN_add, nI_s, show 27 * lv t + x = lv (x :: t) from Nat.add_comm _ _]
          refine z_loc (L' := [(2, .long (lN (lv s))), (4, .long (lN (lv (x :: t)))), (6, .int (nI (j + 1)))]) ⟨rfl, rfl, rfl, trivial⟩ ?_
          have hl := hs.1
          simp only [List.length_cons] at hl hk
          exact ih s.length (by omega) (j + 1) s (x :: t) rfl (by omega) ⟨by omega, fun y hy => hs.2 y (List.mem_cons_of_mem _ hy)⟩ (by rw [← hf, List.reverse_cons, List.append_assoc]; rfl)
  refine z_lload_n g dX10_turned_0 rfl ?_
  refine z_lstore_n g dX10_turned_1 (by rw [hN]; decide) ?_
  refine z_lconst (v := 0) g dX10_turned_2 (by decide) ?_
  refine z_lstore g dX10_turned_3 (by rw [hN]; decide) ?_
  refine z_iconst (v := 0) g dX10_turned_5 (by decide) ?_
  refine z_istore g dX10_turned_6 (by rw [hN]; decide) ?_
  refine z_loc (L' := [(2, .long (lN (lv r))), (4, .long (lN (lv []))), (6, .int (nI 0))]) ⟨rfl, rfl, rfl, trivial⟩ ?_
  exact loop r.length 0 r [] rfl (by decide) hr (List.append_nil _)
set_option maxHeartbeats 4000000 in
set_option maxRecDepth 100000 in
theorem c_cntL (E : Ev) (M : Mm) (r : List Nat) (hr : LW 12 r) : CT E yX10_countLetters cX10_countLetters 6 (some .int) 1 0 0 [.long (lN (lv r))] M (ansI (nI r.length) M) noX := by
  refine CT.of rfl (Nat.le_of_ble_eq_true rfl) (fun X g hrt hno hE hN hR hI => ?_)
  subst hE
  have loop : ∀ (k j : Nat) (s : List Nat) (hk : k = s.length) (hj : j ≤ 12) (hs : LW (12 - j) s) (hf : j + s.length = r.length), Z X M 0 0 8 [(2, .long (lN (lv s))), (4, .int (nI j)), (5, .int (nI j))] [] := by
    intro k
    induction k using Nat.strongRecOn with
    | _ k ih =>
      intro j s hk hj hs hf
      refine z_iload g dX10_countLetters_8 rfl ?_
      refine z_bipush (v := 12) g dX10_countLetters_10 (by decide) ?_
      refine z_icmp_ge (tgt := 36) g dX10_countLetters_12 (by decide) (fun c_12 => ?_) (fun c_12 => ?_)
      · have h8 : s = [] := by
          first
            | (rw [nI12, nI_leI (by omega) (by omega)] at c_12
               exact List.length_eq_zero_iff.mp (by have := hs.1; omega))
            | exact (lv_z hs).mp ((c0_le (LW.lt63 (n := 12) ⟨by have := hs.1; omega, hs.2⟩ (Nat.le_refl _))).mp c_18)
        rw [h8] at hf
        rw [show j = r.length by simpa using hf]
        refine z_iload g dX10_countLetters_36 rfl ?_
        exact z_iret g hrt rfl (by decide) (by decide) dX10_countLetters_38 ⟨rfl, rfl⟩
      · refine z_lload_n g dX10_countLetters_15 rfl ?_
        refine z_lconst (v := 0) g dX10_countLetters_16 (by decide) ?_
        refine z_lcmp g dX10_countLetters_17 ?_
        refine z_if_le (tgt := 36) g dX10_countLetters_18 (by decide) (fun c_18 => ?_) (fun c_18 => ?_)
        · have h8 : s = [] := by
            first
              | (rw [nI12, nI_leI (by omega) (by omega)] at c_12
                 exact List.length_eq_zero_iff.mp (by have := hs.1; omega))
              | exact (lv_z hs).mp ((c0_le (LW.lt63 (n := 12) ⟨by have := hs.1; omega, hs.2⟩ (Nat.le_refl _))).mp c_18)
          rw [h8] at hf
          rw [show j = r.length by simpa using hf]
          refine z_iload g dX10_countLetters_36 rfl ?_
          exact z_iret g hrt rfl (by decide) (by decide) dX10_countLetters_38 ⟨rfl, rfl⟩
        · refine z_iinc1 g dX10_countLetters_21 rfl (by rw [hN]; decide) ?_
          refine z_lload_n g dX10_countLetters_24 rfl ?_
          refine z_ldc2 g dX10_countLetters_25 kc_X10_295 ?_
          refine z_ldiv g dX10_countLetters_28 (by decide) ?_
          refine z_lstore_n g dX10_countLetters_29 (by rw [hN]; decide) ?_
          refine z_iinc1 g dX10_countLetters_30 rfl (by rw [hN]; decide) ?_
          refine z_goto (tgt := 8) g dX10_countLetters_33 (by decide) ?_
          obtain ⟨x, s, rfl⟩ : ∃ x s', s = x :: s' := by
            cases s with
            | nil => exact absurd ((c0_le (m := lv []) (by decide)).mpr rfl) c_18
            | cons x s => exact ⟨x, s, rfl⟩
          have hx := hs.2 x List.mem_cons_self
          have hls : lv (x :: s) < 2 ^ 63 := LW.lt63 (n := 12) ⟨by have := hs.1; omega, hs.2⟩ (Nat.le_refl _)
          rw [div27 hls, lv_div hx.2, nI_s]
          refine z_loc (L' := [(2, .long (lN (lv s))), (4, .int (nI (j + 1))), (5, .int (nI (j + 1)))]) ⟨rfl, rfl, rfl, trivial⟩ ?_
          have hl := hs.1
          simp only [List.length_cons] at hl hk hf
          exact ih s.length (by omega) (j + 1) s rfl (by omega) ⟨by omega, fun y hy => hs.2 y (List.mem_cons_of_mem _ hy)⟩ (by omega)
  refine z_lload_n g dX10_countLetters_0 rfl ?_
  refine z_lstore_n g dX10_countLetters_1 (by rw [hN]; decide) ?_
  refine z_iconst (v := 0) g dX10_countLetters_2 (by decide) ?_
  refine z_istore g dX10_countLetters_3 (by rw [hN]; decide) ?_
  refine z_iconst (v := 0) g dX10_countLetters_5 (by decide) ?_
  refine z_istore g dX10_countLetters_6 (by rw [hN]; decide) ?_
  refine z_loc (L' := [(2, .long (lN (lv r))), (4, .int (nI 0)), (5, .int (nI 0))]) ⟨rfl, rfl, rfl, trivial⟩ ?_
  exact loop r.length 0 r rfl (by decide) hr (Nat.zero_add _)
set_option maxHeartbeats 4000000 in
set_option maxRecDepth 100000 in
theorem c_wlet (E : Ev) (M : Mm) (r : List Nat) (l : Nat) (hr : LW 12 r) (hl26 : l ≤ 26) : CT E yX10_withLetter cX10_withLetter 3 (some .long) 1 0 0 [.long (lN (lv r)), .int (nI l)] M (ansL (lN (lv (wl r l))) M) noX := by
  refine CT.of rfl (Nat.le_of_ble_eq_true rfl) (fun X g hrt hno hE hN hR hI => ?_)
  subst hE
  have hl : lv r < 2 ^ 63 := LW.lt63 hr (Nat.le_refl _)
  refine z_iload_n g dX10_withLetter_0 rfl ?_
  refine z_if_eq (tgt := 12) g dX10_withLetter_1 (by decide) (fun c_1 => ?_) (fun c_1 => ?_)
  · replace c_1 := (nI_eq (a := l) (b := 0) (by omega) (by decide)).mp c_1
    refine z_lload_n g dX10_withLetter_12 rfl ?_
    refine z_goto (tgt := 24) g dX10_withLetter_13 (by decide) ?_
    exact z_lret g hrt (by decide) (by decide) dX10_withLetter_24 ⟨by rw [wl, if_pos (Or.inl c_1)], rfl⟩
  replace c_1 : ¬ l = 0 := fun z => c_1 ((nI_eq (a := l) (b := 0) (by omega) (by decide)).mpr z)
  refine z_lload_n g dX10_withLetter_4 rfl ?_
  refine z_ldc2 g dX10_withLetter_5 kc_X10_367 ?_
  refine z_lcmp g dX10_withLetter_8 ?_
  refine z_if_lt (tgt := 16) g dX10_withLetter_9 (by decide) (fun c_9 => ?_) (fun c_9 => ?_)
  rotate_left
  · have h9 : r.length = 12 := (lv_12 hr).mp (by rw [show (5559060566555523 : Int64) = lN 5559060566555523 from rfl, lg_cmp_lt, pk_lLT hl (by decide)] at c_9; omega)
    refine z_lload_n g dX10_withLetter_12 rfl ?_
    refine z_goto (tgt := 24) g dX10_withLetter_13 (by decide) ?_
    exact z_lret g hrt (by decide) (by decide) dX10_withLetter_24 ⟨by rw [wl, if_pos (Or.inr h9)], rfl⟩
  have h9 : ¬ r.length = 12 := fun z => by rw [show (5559060566555523 : Int64) = lN 5559060566555523 from rfl, lg_cmp_lt, pk_lLT hl (by decide)] at c_9; have := (lv_12 hr).mpr z; omega
  refine z_lload_n g dX10_withLetter_16 rfl ?_
  refine z_ldc2 g dX10_withLetter_17 kc_X10_295 ?_
  refine z_lmul g dX10_withLetter_20 ?_
  refine z_iload_n g dX10_withLetter_21 rfl ?_
  refine z_i2l g dX10_withLetter_22 ?_
  refine z_ladd g dX10_withLetter_23 ?_
  exact z_lret g hrt (by decide) (by decide) dX10_withLetter_24 ⟨by rw [wl, if_neg (fun z => z.elim c_1 h9), mul27, i2l_n (by omega), lN_add]; show some (Value.long (lN (27 * lv r + l))) = some (Value.long (lN (l + 27 * lv r))); rw [Nat.add_comm], rfl⟩
set_option maxHeartbeats 4000000 in
set_option maxRecDepth 100000 in
theorem c_allOf (E : Ev) (M : Mm) (n : Nat) (hn : n ≤ 4) : CT E yX0_allOf cX0_allOf 1 (some .int) 1 0 0 [.int (nI n)] M (ansI (nI (2 ^ n - 1)) M) noX := by
  refine CT.of rfl (Nat.le_of_ble_eq_true rfl) (fun X g hrt hno hE hN hR hI => ?_)
  subst hE
  have h5 : n = 0 ∨ n = 1 ∨ n = 2 ∨ n = 3 ∨ n = 4 := by omega
  refine z_iconst (v := 1) g dX0_allOf_0 (by decide) ?_
  refine z_iload_n g dX0_allOf_1 rfl ?_
  refine z_ishl g dX0_allOf_2 ?_
  refine z_iconst (v := 1) g dX0_allOf_3 (by decide) ?_
  refine z_isub g dX0_allOf_4 ?_
  exact z_iret g hrt rfl (by decide) (by decide) dX0_allOf_5 ⟨by rcases h5 with rfl | rfl | rfl | rfl | rfl <;> decide, rfl⟩
