def chst (a b c : Nat) (acc : List Nat) (x : Nat) : List Nat := if x = a then wl (wl acc b) c else wl acc x
def chg (a b c : Nat) (r : List Nat) : List Nat := r.reverse.foldl (chst a b c) []
theorem chst_LW {a b c x : Nat} {r : List Nat} (h : LW 12 r) (hb : b ≤ 26) (hc : c ≤ 26) (hx : x ≤ 26) : LW 12 (chst a b c r x) := by
  unfold chst; split
  · exact wl_LW (wl_LW h hb) hc
  · exact wl_LW h hx
set_option maxHeartbeats 4000000 in
set_option maxRecDepth 100000 in
theorem c_chg (E : Ev) (M : Mm) (e : Nat) (r : List Nat) (k1 : kd M e % 1000 = 6) (hr : LW 12 r) {a b c : Nat} (h3 : fI M e 3 = nI a) (h4 : fI M e 4 = nI b) (h5 : fI M e 5 = nI c) (ha : a ≤ 26) (hb : b ≤ 26) (hc : c ≤ 26) : CT E yX5_changed cX5_changed 9 (some .long) 2 0 0 [.ref e, .long (lN (lv r))] M (ansL (lN (lv (chg a b c r))) M) noX := by
  refine CT.of rfl (Nat.le_of_ble_eq_true rfl) (fun X g hrt hno hE hN hR hI => ?_)
  subst hE
  have loop : ∀ (k j : Nat) (s t : List Nat) (hk : k = s.length) (hj : j ≤ 12) (hs : LW (12 - j) s) (ht : LW 12 t) (hf : s.foldl (chst a b c) t = chg a b c r), Z X M 0 0 11 [(0, .ref e), (3, .long (lN (lv s))), (5, .long (lN (lv t))), (7, .int (nI j))] [] := by
    intro k
    induction k using Nat.strongRecOn with
    | _ k ih =>
      intro j s t hk hj hs ht hf
      refine z_iload g dX5_changed_11 rfl ?_
      refine z_bipush (v := 12) g dX5_changed_13 (by decide) ?_
      refine z_icmp_ge (tgt := 83) g dX5_changed_15 (by decide) (fun c_15 => ?_) (fun c_15 => ?_)
      · have h8 : s = [] := by
          rw [nI12, nI_leI (by omega) (by omega)] at c_15
          exact List.length_eq_zero_iff.mp (by have := hs.1; omega)
        rw [h8] at hf
        rw [show t = chg a b c r from hf]
        refine z_lload g dX5_changed_83 rfl ?_
        exact z_lret g hrt (by decide) (by decide) dX5_changed_85 ⟨rfl, rfl⟩
      · refine z_lload_n g dX5_changed_18 rfl ?_
        refine z_lconst (v := 0) g dX5_changed_19 (by decide) ?_
        refine z_lcmp g dX5_changed_20 ?_
        refine z_if_le (tgt := 83) g dX5_changed_21 (by decide) (fun c_21 => ?_) (fun c_21 => ?_)
        · have h8 : s = [] := (lv_z hs).mp ((c0_le (LW.lt63 (n := 12) ⟨by have := hs.1; omega, hs.2⟩ (Nat.le_refl _))).mp c_21)
          rw [h8] at hf
          rw [show t = chg a b c r from hf]
          refine z_lload g dX5_changed_83 rfl ?_
          exact z_lret g hrt (by decide) (by decide) dX5_changed_85 ⟨rfl, rfl⟩
        obtain ⟨x, s, rfl⟩ : ∃ x s', s = x :: s' := by
          cases s with
          | nil => exact absurd ((c0_le (m := lv []) (by decide)).mpr rfl) c_21
          | cons x s => exact ⟨x, s, rfl⟩
        have hx := hs.2 x List.mem_cons_self
        have hls : lv (x :: s) < 2 ^ 63 := LW.lt63 (n := 12) ⟨by have := hs.1; omega, hs.2⟩ (Nat.le_refl _)
        refine z_lload_n g dX5_changed_24 rfl ?_
        refine z_ldc2 g dX5_changed_25 kc_X5_34 ?_
        refine z_lrem g dX5_changed_28 (by decide) ?_
        rw [rem27 hls, lv_mod hx.2]
        refine z_l2i g dX5_changed_29 ?_
        rw [l2i_n]
        refine z_istore g dX5_changed_30 (by rw [hN]; decide) ?_
        refine z_iload g dX5_changed_32 rfl ?_
        refine z_aload_n g dX5_changed_34 rfl ?_
        refine z_getI g fl_X5_21 (by assumption) (by decide) rfl dX5_changed_35 ?_
        refine z_icmp_ne (tgt := 62) g dX5_changed_38 (by decide) (fun c_38 => ?_) (fun c_38 => ?_)
        · refine z_lload g dX5_changed_62 rfl ?_
          refine z_iload g dX5_changed_64 rfl ?_
          refine z_callS g _ _ cs_X5_36 (c_wlet _ M t x ht hx.2) rfl (by rw [hR]; decide) (by rw [hR]; decide) (by rw [hR]; decide) (Nat.le_of_ble_eq_true rfl) rfl dX5_changed_66 (fun _ _ h => False.elim h) (fun r_66 M_66 h_66 => ?_)
          obtain ⟨rfl, rfl⟩ := h_66
          refine z_lstore g dX5_changed_69 (by rw [hN]; decide) ?_
          refine z_lload_n g dX5_changed_71 rfl ?_
          refine z_ldc2 g dX5_changed_72 kc_X5_34 ?_
          refine z_ldiv g dX5_changed_75 (by decide) ?_
          refine z_lstore_n g dX5_changed_76 (by rw [hN]; decide) ?_
          refine z_iinc1 g dX5_changed_77 rfl (by rw [hN]; decide) ?_
          refine z_goto (tgt := 11) g dX5_changed_80 (by decide) ?_
          rw [div27 hls, lv_div hx.2, nI_s]
          have hl := hs.1
          simp only [List.length_cons] at hl hk
          first
            | (have hc_ : x = a := (nI_eq (by omega) (by omega)).mp (c_38.trans h3)
               have hs2 := ih s.length (by omega) (j + 1) s (chst a b c t x) rfl (by omega) ⟨by omega, fun y hy => hs.2 y (List.mem_cons_of_mem _ hy)⟩ (chst_LW ht hb hc hx.2) hf
               rw [chst, if_pos hc_] at hs2
               exact z_to hs2 ⟨rfl, rfl, rfl, rfl, trivial⟩)
            | (have hc_ : ¬ x = a := fun z => c_38 (by rw [h3, z])
               have hs2 := ih s.length (by omega) (j + 1) s (chst a b c t x) rfl (by omega) ⟨by omega, fun y hy => hs.2 y (List.mem_cons_of_mem _ hy)⟩ (chst_LW ht hb hc hx.2) hf
               rw [chst, if_neg hc_] at hs2
               exact z_to hs2 ⟨rfl, rfl, rfl, rfl, trivial⟩)
        · refine z_lload g dX5_changed_41 rfl ?_
          refine z_aload_n g dX5_changed_43 rfl ?_
          refine z_getI g fl_X5_24 (by assumption) (by decide) rfl dX5_changed_44 ?_
          rw [h4]
          refine z_callS g _ _ cs_X5_36 (c_wlet _ M t b ht hb) rfl (by rw [hR]; decide) (by rw [hR]; decide) (by rw [hR]; decide) (Nat.le_of_ble_eq_true rfl) rfl dX5_changed_47 (fun _ _ h => False.elim h) (fun r_47 M_47 h_47 => ?_)
          obtain ⟨rfl, rfl⟩ := h_47
          refine z_aload_n g dX5_changed_50 rfl ?_
          refine z_getI g fl_X5_27 (by assumption) (by decide) rfl dX5_changed_51 ?_
          rw [h5]
          refine z_callS g _ _ cs_X5_36 (c_wlet _ M (wl t b) c (wl_LW ht hb) hc) rfl (by rw [hR]; decide) (by rw [hR]; decide) (by rw [hR]; decide) (Nat.le_of_ble_eq_true rfl) rfl dX5_changed_54 (fun _ _ h => False.elim h) (fun r_54 M_54 h_54 => ?_)
          obtain ⟨rfl, rfl⟩ := h_54
          refine z_lstore g dX5_changed_57 (by rw [hN]; decide) ?_
          refine z_goto (tgt := 71) g dX5_changed_59 (by decide) ?_
          refine z_lload_n g dX5_changed_71 rfl ?_
          refine z_ldc2 g dX5_changed_72 kc_X5_34 ?_
          refine z_ldiv g dX5_changed_75 (by decide) ?_
          refine z_lstore_n g dX5_changed_76 (by rw [hN]; decide) ?_
          refine z_iinc1 g dX5_changed_77 rfl (by rw [hN]; decide) ?_
          refine z_goto (tgt := 11) g dX5_changed_80 (by decide) ?_
          rw [div27 hls, lv_div hx.2, nI_s]
          have hl := hs.1
          simp only [List.length_cons] at hl hk
          first
            | (have hc_ : x = a := (nI_eq (by omega) (by omega)).mp (c_38.trans h3)
               have hs2 := ih s.length (by omega) (j + 1) s (chst a b c t x) rfl (by omega) ⟨by omega, fun y hy => hs.2 y (List.mem_cons_of_mem _ hy)⟩ (chst_LW ht hb hc hx.2) hf
               rw [chst, if_pos hc_] at hs2
               exact z_to hs2 ⟨rfl, rfl, rfl, rfl, trivial⟩)
            | (have hc_ : ¬ x = a := fun z => c_38 (by rw [h3, z])
               have hs2 := ih s.length (by omega) (j + 1) s (chst a b c t x) rfl (by omega) ⟨by omega, fun y hy => hs.2 y (List.mem_cons_of_mem _ hy)⟩ (chst_LW ht hb hc hx.2) hf
               rw [chst, if_neg hc_] at hs2
               exact z_to hs2 ⟨rfl, rfl, rfl, rfl, trivial⟩)
  refine z_lload_n g dX5_changed_0 rfl ?_
  refine z_callS g _ _ cs_X5_30 (c_turned _ M r hr) rfl (by rw [hR]; decide) (by rw [hR]; decide) (by rw [hR]; decide) (Nat.le_of_ble_eq_true rfl) rfl dX5_changed_1 (fun _ _ h => False.elim h) (fun r_1 M_1 h_1 => ?_)
  obtain ⟨rfl, rfl⟩ := h_1
  refine z_lstore_n g dX5_changed_4 (by rw [hN]; decide) ?_
  refine z_lconst (v := 0) g dX5_changed_5 (by decide) ?_
  refine z_lstore g dX5_changed_6 (by rw [hN]; decide) ?_
  refine z_iconst (v := 0) g dX5_changed_8 (by decide) ?_
  refine z_istore g dX5_changed_9 (by rw [hN]; decide) ?_
  exact z_to (loop r.reverse.length 0 r.reverse [] rfl (by decide) hr.rev ⟨by decide, fun x hx => by cases hx⟩ rfl) ⟨rfl, rfl, rfl, rfl, trivial⟩
set_option maxHeartbeats 4000000 in
set_option maxRecDepth 100000 in
theorem c_hVot (E : Ev) (M : Mm) (p : Nat) (k1 : kd M p % 1000 = 8) (i : Int32) : CT E yX7_hasVoted cX7_hasVoted 2 (some .boolean) 1 0 0 [.ref p, .int i] M (ansI (b2i (!decide ((fI M p 5 ||| fI M p 6) &&& 1 <<< (i &&& 31) = 0))) M) noX := by
  refine CT.of rfl (Nat.le_of_ble_eq_true rfl) (fun X g hrt hno hE hN hR hI => ?_)
  subst hE
  refine z_aload_n g dX7_hasVoted_0 rfl ?_
  refine z_getI g fl_X7_32 (by assumption) (by decide) rfl dX7_hasVoted_1 ?_
  refine z_aload_n g dX7_hasVoted_4 rfl ?_
  refine z_getI g fl_X7_35 (by assumption) (by decide) rfl dX7_hasVoted_5 ?_
  refine z_ior g dX7_hasVoted_8 ?_
  refine z_iconst (v := 1) g dX7_hasVoted_9 (by decide) ?_
  refine z_iload_n g dX7_hasVoted_10 rfl ?_
  refine z_ishl g dX7_hasVoted_11 ?_
  refine z_iand g dX7_hasVoted_12 ?_
  refine z_if_eq (tgt := 20) g dX7_hasVoted_13 (by decide) (fun c_13 => ?_) (fun c_13 => ?_)
  · refine z_iconst (v := 0) g dX7_hasVoted_20 (by decide) ?_
    exact z_iret g hrt (by decide) (by decide) (by decide) dX7_hasVoted_21 ⟨by simp [b2i, c_13], rfl⟩
  · refine z_iconst (v := 1) g dX7_hasVoted_16 (by decide) ?_
    refine z_goto (tgt := 21) g dX7_hasVoted_17 (by decide) ?_
    exact z_iret g hrt (by decide) (by decide) (by decide) dX7_hasVoted_21 ⟨by simp [b2i, c_13], rfl⟩
set_option maxHeartbeats 4000000 in
set_option maxRecDepth 100000 in
theorem c_cVot (E : Ev) (M : Mm) (p : Nat) (k1 : kd M p % 1000 = 8) {u v : Nat} (hu : fI M p 5 = nI u) (hv : fI M p 6 = nI v) (hu9 : u < 2 ^ 27) (hv9 : v < 2 ^ 27) : CT E yX7_countVotes cX7_countVotes 1 (some .int) 2 0 0 [.ref p] M (ansI (nI (pop (u ||| v))) M) noX := by
  refine CT.of rfl (Nat.le_of_ble_eq_true rfl) (fun X g hrt hno hE hN hR hI => ?_)
  subst hE
  refine z_aload_n g dX7_countVotes_0 rfl ?_
  refine z_getI g fl_X7_32 (by assumption) (by decide) rfl dX7_countVotes_1 ?_
  rw [hu]
  refine z_aload_n g dX7_countVotes_4 rfl ?_
  refine z_getI g fl_X7_35 (by assumption) (by decide) rfl dX7_countVotes_5 ?_
  rw [hv]
  refine z_ior g dX7_countVotes_8 ?_
  rw [nI_or]
  refine z_callS g _ _ cs_X7_38 (c_bitc _ M (u ||| v) (Nat.or_lt_two_pow hu9 hv9)) rfl (by rw [hR]; decide) (by rw [hR]; decide) (by rw [hR]; decide) (Nat.le_of_ble_eq_true rfl) rfl dX7_countVotes_9 (fun _ _ h => False.elim h) (fun r_9 M_9 h_9 => ?_)
  obtain ⟨rfl, rfl⟩ := h_9
  exact z_iret g hrt rfl (by decide) (by decide) dX7_countVotes_12 ⟨rfl, rfl⟩
set_option maxHeartbeats 4000000 in
set_option maxRecDepth 100000 in
theorem c_more (E : Ev) (M : Mm) (p : Nat) (k1 : kd M p % 1000 = 8) {u v : Nat} (hu : fI M p 5 = nI u) (hv : fI M p 6 = nI v) (hu9 : u < 2 ^ 27) (hv9 : v < 2 ^ 27) : CT E yX7_hasMoreFor cX7_hasMoreFor 1 (some .boolean) 2 0 0 [.ref p] M (ansI (b2i (decide (pop v < pop u))) M) noX := by
  refine CT.of rfl (Nat.le_of_ble_eq_true rfl) (fun X g hrt hno hE hN hR hI => ?_)
  subst hE
  have p1 := pop_le hu9
  have p2 := pop_le hv9
  refine z_aload_n g dX7_hasMoreFor_0 rfl ?_
  refine z_getI g fl_X7_32 (by assumption) (by decide) rfl dX7_hasMoreFor_1 ?_
  rw [hu]
  refine z_callS g _ _ cs_X7_38 (c_bitc _ M u hu9) rfl (by rw [hR]; decide) (by rw [hR]; decide) (by rw [hR]; decide) (Nat.le_of_ble_eq_true rfl) rfl dX7_hasMoreFor_4 (fun _ _ h => False.elim h) (fun r_4 M_4 h_4 => ?_)
  obtain ⟨rfl, rfl⟩ := h_4
  refine z_aload_n g dX7_hasMoreFor_7 rfl ?_
  refine z_getI g fl_X7_35 (by assumption) (by decide) rfl dX7_hasMoreFor_8 ?_
  rw [hv]
  refine z_callS g _ _ cs_X7_38 (c_bitc _ M v hv9) rfl (by rw [hR]; decide) (by rw [hR]; decide) (by rw [hR]; decide) (Nat.le_of_ble_eq_true rfl) rfl dX7_hasMoreFor_11 (fun _ _ h => False.elim h) (fun r_11 M_11 h_11 => ?_)
  obtain ⟨rfl, rfl⟩ := h_11
  refine z_icmp_le (tgt := 21) g dX7_hasMoreFor_14 (by decide) (fun c_14 => ?_) (fun c_14 => ?_)
  · refine z_iconst (v := 0) g dX7_hasMoreFor_21 (by decide) ?_
    exact z_iret g hrt (by decide) (by decide) (by decide) dX7_hasMoreFor_22 ⟨by rw [nI_leI (by omega) (by omega)] at c_14; first | (rw [decide_eq_true (by omega)]; rfl) | (rw [decide_eq_false (by omega)]; rfl), rfl⟩
  · refine z_iconst (v := 1) g dX7_hasMoreFor_17 (by decide) ?_
    refine z_goto (tgt := 22) g dX7_hasMoreFor_18 (by decide) ?_
    exact z_iret g hrt (by decide) (by decide) (by decide) dX7_hasMoreFor_22 ⟨by rw [nI_leI (by omega) (by omega)] at c_14; first | (rw [decide_eq_true (by omega)]; rfl) | (rw [decide_eq_false (by omega)]; rfl), rfl⟩
set_option maxHeartbeats 4000000 in
set_option maxRecDepth 100000 in
theorem c_canD (E : Ev) (M : Mm) (p : Nat) (k1 : kd M p % 1000 = 8) (n : Int32) {u v : Nat} (hu : fI M p 5 = nI u) (hv : fI M p 6 = nI v) (hu9 : u < 2 ^ 27) (hv9 : v < 2 ^ 27) : CT E yX7_canBeDecided cX7_canBeDecided 2 (some .boolean) 3 0 0 [.ref p, .int n] M (ansI (b2i (decide (fI M p 4 = 0) && (!decide (fI M p 3 ≤ n) && (!decide (nI (pop (u ||| v)) < 5) && decide (fI M p 7 = 0))))) M) noX := by
  refine CT.of rfl (Nat.le_of_ble_eq_true rfl) (fun X g hrt hno hE hN hR hI => ?_)
  subst hE
  refine z_aload_n g dX7_canBeDecided_0 rfl ?_
  refine z_getI g fl_X7_9 (by assumption) (by decide) rfl dX7_canBeDecided_1 ?_
  refine z_if_ne (tgt := 34) g dX7_canBeDecided_4 (by decide) (fun c_4 => ?_) (fun c_4 => ?_)
  · refine z_iconst (v := 0) g dX7_canBeDecided_34 (by decide) ?_
    exact z_iret g hrt (by decide) (by decide) (by decide) dX7_canBeDecided_35 ⟨by simp [b2i, c_4], rfl⟩
  · refine z_iload_n g dX7_canBeDecided_7 rfl ?_
    refine z_aload_n g dX7_canBeDecided_8 rfl ?_
    refine z_getI g fl_X7_29 (by assumption) (by decide) rfl dX7_canBeDecided_9 ?_
    refine z_icmp_ge (tgt := 34) g dX7_canBeDecided_12 (by decide) (fun c_12 => ?_) (fun c_12 => ?_)
    · refine z_iconst (v := 0) g dX7_canBeDecided_34 (by decide) ?_
      exact z_iret g hrt (by decide) (by decide) (by decide) dX7_canBeDecided_35 ⟨by simp [b2i, c_4, c_12], rfl⟩
    · refine z_aload_n g dX7_canBeDecided_15 rfl ?_
      refine z_callV g _ _ cv_X7_44 (c_cVot _ M p k1 hu hv hu9 hv9) (by assumption) (by decide) rfl (by rw [hR]; decide) (by rw [hR]; decide) (by rw [hR]; decide) (Nat.le_of_ble_eq_true rfl) rfl dX7_canBeDecided_16 (fun _ _ h => False.elim h) (fun r_16 M_16 h_16 => ?_)
      obtain ⟨rfl, rfl⟩ := h_16
      refine z_iconst (v := 5) g dX7_canBeDecided_19 (by decide) ?_
      refine z_icmp_lt (tgt := 34) g dX7_canBeDecided_20 (by decide) (fun c_20 => ?_) (fun c_20 => ?_)
      · refine z_iconst (v := 0) g dX7_canBeDecided_34 (by decide) ?_
        exact z_iret g hrt (by decide) (by decide) (by decide) dX7_canBeDecided_35 ⟨by simp [b2i, c_4, c_12, c_20], rfl⟩
      · refine z_aload_n g dX7_canBeDecided_23 rfl ?_
        refine z_getI g fl_X7_48 (by assumption) (by decide) rfl dX7_canBeDecided_24 ?_
        refine z_if_ne (tgt := 34) g dX7_canBeDecided_27 (by decide) (fun c_27 => ?_) (fun c_27 => ?_)
        · refine z_iconst (v := 0) g dX7_canBeDecided_34 (by decide) ?_
          exact z_iret g hrt (by decide) (by decide) (by decide) dX7_canBeDecided_35 ⟨by simp [b2i, c_4, c_12, c_20, c_27], rfl⟩
        · refine z_iconst (v := 1) g dX7_canBeDecided_30 (by decide) ?_
          refine z_goto (tgt := 35) g dX7_canBeDecided_31 (by decide) ?_
          exact z_iret g hrt (by decide) (by decide) (by decide) dX7_canBeDecided_35 ⟨by simp [b2i, c_4, c_12, c_20, c_27], rfl⟩
set_option maxHeartbeats 4000000 in
set_option maxRecDepth 100000 in
theorem c_letF (E : Ev) (M : Mm) (t a j : Nat) (k1 : kd M t % 1000 = 10) (hf : fR M t 0 = some a) (k2 : kd M a % 1000 = 171) (ha : ln M a = 27) (hj : j < 27) : CT E yX9_letterFor cX9_letterFor 2 (some .int) 1 0 0 [.ref t, .int (nI j)] M (ansI (fI M a j) M) noX := by
  refine CT.of rfl (Nat.le_of_ble_eq_true rfl) (fun X g hrt hno hE hN hR hI => ?_)
  subst hE
  refine z_iload_n g dX9_letterFor_0 rfl ?_
  refine z_if_lt (tgt := 22) g dX9_letterFor_1 (by decide) (fun c_1 => (by exact absurd c_1 (nI_pos (by omega)))) (fun c_1 => ?_)
  refine z_iload_n g dX9_letterFor_4 rfl ?_
  refine z_aload_n g dX9_letterFor_5 rfl ?_
  refine z_getR g fl_X9_9 (by assumption) (by decide) rfl (by assumption) dX9_letterFor_6 ?_
  refine z_alenIk g (by assumption) (by decide) dX9_letterFor_9 ?_
  refine z_icmp_ge (tgt := 22) g dX9_letterFor_10 (by decide) (fun c_10 => (by rw [ha, nI_leI (by omega) (by omega)] at c_10; omega)) (fun c_10 => ?_)
  refine z_aload_n g dX9_letterFor_13 rfl ?_
  refine z_getR g fl_X9_9 (by assumption) (by decide) rfl (by assumption) dX9_letterFor_14 ?_
  refine z_iload_n g dX9_letterFor_17 rfl ?_
  refine z_ialdk (k := 171) g (by assumption) (by decide) (vp_in_nI (by omega) (by omega)) dX9_letterFor_18 ?_
  refine z_goto (tgt := 23) g dX9_letterFor_19 (by decide) ?_
  exact z_iret g hrt rfl (by decide) (by decide) dX9_letterFor_23 ⟨by rw [nI_clamp (by omega)], rfl⟩
set_option maxHeartbeats 4000000 in
set_option maxRecDepth 100000 in
theorem c_setL (E : Ev) (M : Mm) (t a j : Nat) (k1 : kd M t % 1000 = 10) (hf : fR M t 0 = some a) (k2 : kd M a % 1000 = 171) (ha : ln M a = 27) (hj : j < 27) (v : Int32) : CT E yX9_setLetter cX9_setLetter 3 none 1 0 0 [.ref t, .int (nI j), .int v] M (ansV (sI M a j v)) noX := by
  refine CT.of rfl (Nat.le_of_ble_eq_true rfl) (fun X g hrt hno hE hN hR hI => ?_)
  subst hE
  refine z_iload_n g dX9_setLetter_0 rfl ?_
  refine z_if_lt (tgt := 20) g dX9_setLetter_1 (by decide) (fun c_1 => (by exact absurd c_1 (nI_pos (by omega)))) (fun c_1 => ?_)
  refine z_iload_n g dX9_setLetter_4 rfl ?_
  refine z_aload_n g dX9_setLetter_5 rfl ?_
  refine z_getR g fl_X9_9 (by assumption) (by decide) rfl (by assumption) dX9_setLetter_6 ?_
  refine z_alenIk g (by assumption) (by decide) dX9_setLetter_9 ?_
  refine z_icmp_ge (tgt := 20) g dX9_setLetter_10 (by decide) (fun c_10 => (by rw [ha, nI_leI (by omega) (by omega)] at c_10; omega)) (fun c_10 => ?_)
  refine z_aload_n g dX9_setLetter_13 rfl ?_
  refine z_getR g fl_X9_9 (by assumption) (by decide) rfl (by assumption) dX9_setLetter_14 ?_
  refine z_iload_n g dX9_setLetter_17 rfl ?_
  refine z_iload_n g dX9_setLetter_18 rfl ?_
  refine z_iastk (k := 171) g (by assumption) (by decide) (vp_in_nI (by omega) (by omega)) dX9_setLetter_19 ?_
  exact z_vret g hrt (by decide) (by decide) dX9_setLetter_20 ⟨rfl, by rw [nI_clamp (by omega)]⟩
set_option maxHeartbeats 4000000 in
set_option maxRecDepth 100000 in
theorem c_hunO (E : Ev) (M : Mm) (t a j : Nat) (k1 : kd M t % 1000 = 4) (hf : fR M t 6 = some a) (k2 : kd M a % 1000 = 170) (ha : ln M a = 4) (hj : j < 4) : CT E yX3_hundredthsOf cX3_hundredthsOf 2 (some .int) 1 0 0 [.ref t, .int (nI j)] M (ansI (fI M a j) M) noX := by
  refine CT.of rfl (Nat.le_of_ble_eq_true rfl) (fun X g hrt hno hE hN hR hI => ?_)
  subst hE
  refine z_iload_n g dX3_hundredthsOf_0 rfl ?_
  refine z_if_lt (tgt := 22) g dX3_hundredthsOf_1 (by decide) (fun c_1 => (by exact absurd c_1 (nI_pos (by omega)))) (fun c_1 => ?_)
  refine z_iload_n g dX3_hundredthsOf_4 rfl ?_
  refine z_aload_n g dX3_hundredthsOf_5 rfl ?_
  refine z_getR g fl_X3_31 (by assumption) (by decide) rfl (by assumption) dX3_hundredthsOf_6 ?_
  refine z_alenIk g (by assumption) (by decide) dX3_hundredthsOf_9 ?_
  refine z_icmp_ge (tgt := 22) g dX3_hundredthsOf_10 (by decide) (fun c_10 => (by rw [ha, nI_leI (by omega) (by omega)] at c_10; omega)) (fun c_10 => ?_)
  refine z_aload_n g dX3_hundredthsOf_13 rfl ?_
  refine z_getR g fl_X3_31 (by assumption) (by decide) rfl (by assumption) dX3_hundredthsOf_14 ?_
  refine z_iload_n g dX3_hundredthsOf_17 rfl ?_
  refine z_ialdk (k := 170) g (by assumption) (by decide) (vp_in_nI (by omega) (by omega)) dX3_hundredthsOf_18 ?_
  refine z_goto (tgt := 23) g dX3_hundredthsOf_19 (by decide) ?_
  exact z_iret g hrt rfl (by decide) (by decide) dX3_hundredthsOf_23 ⟨by rw [nI_clamp (by omega)], rfl⟩
set_option maxHeartbeats 4000000 in
set_option maxRecDepth 100000 in
theorem c_setH (E : Ev) (M : Mm) (t a j : Nat) (k1 : kd M t % 1000 = 4) (hf : fR M t 6 = some a) (k2 : kd M a % 1000 = 170) (ha : ln M a = 4) (hj : j < 4) (v : Int32) : CT E yX3_setHundredths cX3_setHundredths 3 none 1 0 0 [.ref t, .int (nI j), .int v] M (ansV (sI M a j v)) noX := by
  refine CT.of rfl (Nat.le_of_ble_eq_true rfl) (fun X g hrt hno hE hN hR hI => ?_)
  subst hE
  refine z_iload_n g dX3_setHundredths_0 rfl ?_
  refine z_if_lt (tgt := 20) g dX3_setHundredths_1 (by decide) (fun c_1 => (by exact absurd c_1 (nI_pos (by omega)))) (fun c_1 => ?_)
  refine z_iload_n g dX3_setHundredths_4 rfl ?_
  refine z_aload_n g dX3_setHundredths_5 rfl ?_
  refine z_getR g fl_X3_31 (by assumption) (by decide) rfl (by assumption) dX3_setHundredths_6 ?_
  refine z_alenIk g (by assumption) (by decide) dX3_setHundredths_9 ?_
  refine z_icmp_ge (tgt := 20) g dX3_setHundredths_10 (by decide) (fun c_10 => (by rw [ha, nI_leI (by omega) (by omega)] at c_10; omega)) (fun c_10 => ?_)
  refine z_aload_n g dX3_setHundredths_13 rfl ?_
  refine z_getR g fl_X3_31 (by assumption) (by decide) rfl (by assumption) dX3_setHundredths_14 ?_
  refine z_iload_n g dX3_setHundredths_17 rfl ?_
  refine z_iload_n g dX3_setHundredths_18 rfl ?_
  refine z_iastk (k := 170) g (by assumption) (by decide) (vp_in_nI (by omega) (by omega)) dX3_setHundredths_19 ?_
  exact z_vret g hrt (by decide) (by decide) dX3_setHundredths_20 ⟨rfl, by rw [nI_clamp (by omega)]⟩
set_option maxHeartbeats 4000000 in
set_option maxRecDepth 100000 in
theorem c_setC (E : Ev) (M : Mm) (t a j : Nat) (k1 : kd M t % 1000 = 1) (hf : fR M t 0 = some a) (k2 : kd M a % 1000 = 172) (ha : ln M a = 4) (hj : j < 4) (v : Int32) : CT E yX0_setCost cX0_setCost 3 none 1 0 0 [.ref t, .int (nI j), .int v] M (ansV (sI M a j v)) noX := by
  refine CT.of rfl (Nat.le_of_ble_eq_true rfl) (fun X g hrt hno hE hN hR hI => ?_)
  subst hE
  refine z_iload_n g dX0_setCost_0 rfl ?_
  refine z_if_lt (tgt := 20) g dX0_setCost_1 (by decide) (fun c_1 => (by exact absurd c_1 (nI_pos (by omega)))) (fun c_1 => ?_)
  refine z_iload_n g dX0_setCost_4 rfl ?_
  refine z_aload_n g dX0_setCost_5 rfl ?_
  refine z_getR g fl_X0_9 (by assumption) (by decide) rfl (by assumption) dX0_setCost_6 ?_
  refine z_alenIk g (by assumption) (by decide) dX0_setCost_9 ?_
  refine z_icmp_ge (tgt := 20) g dX0_setCost_10 (by decide) (fun c_10 => (by rw [ha, nI_leI (by omega) (by omega)] at c_10; omega)) (fun c_10 => ?_)
  refine z_aload_n g dX0_setCost_13 rfl ?_
  refine z_getR g fl_X0_9 (by assumption) (by decide) rfl (by assumption) dX0_setCost_14 ?_
  refine z_iload_n g dX0_setCost_17 rfl ?_
  refine z_iload_n g dX0_setCost_18 rfl ?_
  refine z_iastk (k := 172) g (by assumption) (by decide) (vp_in_nI (by omega) (by omega)) dX0_setCost_19 ?_
  exact z_vret g hrt (by decide) (by decide) dX0_setCost_20 ⟨rfl, by rw [nI_clamp (by omega)]⟩
def cntB (g : Nat → Int32) (v : Int32) : Nat → Nat
  | 0 => 0
  | n + 1 => if g (n + 1) = v then cntB g v n + 1 else cntB g v n
def lasB (g : Nat → Int32) (v : Int32) : Nat → Nat
  | 0 => 0
  | n + 1 => if g (n + 1) = v then n + 1 else lasB g v n
theorem cntB_mono {g : Nat → Int32} {v : Int32} : ∀ {n m : Nat}, n ≤ m → cntB g v n ≤ cntB g v m
  | n, 0, h => by rw [Nat.le_zero.mp h]; exact Nat.le_refl _
  | n, m + 1, h => by
    rcases Nat.lt_or_ge n (m + 1) with z | z
    · have h1 := cntB_mono (g := g) (v := v) (n := n) (m := m) (by omega)
      rw [cntB]; split <;> omega
    · rw [show n = m + 1 by omega]; exact Nat.le_refl _
def oLT (g : Nat → Int32) (v : Int32) (n : Nat) : Int32 := if cntB g v n = 1 then nI (lasB g v n) else -1
def setB (g : Nat → Int32) : Nat → Int32
  | 0 => 0
  | n + 1 => setB g n ||| (1 <<< (g (n + 1) &&& 31))
theorem m1_ne {n : Nat} (h : n < 2 ^ 31) : ¬ nI n = -1 := fun z => by
  have h1 : ¬ nI n < 0 := nI_pos h
  rw [z] at h1; exact h1 (by decide)
theorem lasB_lt {g : Nat → Int32} {v : Int32} {n : Nat} (h : n ≤ 26) : lasB g v n < 2 ^ 31 := by
  have : ∀ n, lasB g v n ≤ n := by
    intro n
    induction n with
    | zero => exact Nat.le_refl _
    | succ n ih => rw [lasB]; split <;> omega
  have := this n; omega
set_option maxHeartbeats 4000000 in
set_option maxRecDepth 100000 in
theorem c_oLT (E : Ev) (M : Mm) (t a : Nat) (k1 : kd M t % 1000 = 10) (hf : fR M t 0 = some a) (k2 : kd M a % 1000 = 171) (ha : ln M a = 27) (v : Int32) : CT E yX9_onlyLetterTold cX9_onlyLetterTold 4 (some .int) 1 0 0 [.ref t, .int v] M (ansI (oLT (fI M a) v 26) M) noX := by
  refine CT.of rfl (Nat.le_of_ble_eq_true rfl) (fun X g hrt hno hE hN hR hI => ?_)
  subst hE
  have loop : ∀ (k j : Nat) (hk : k + j = 26) (hc1 : cntB (fI M a) v j ≤ 1), Z X M 0 0 4 [(0, .ref t), (1, .int v), (2, .int (oLT (fI M a) v j)), (3, .int (nI (j + 1)))] [] := by
    intro k
    induction k using Nat.strongRecOn with
    | _ k ih =>
      intro j hk hc1
      have hj26 : j ≤ 26 := by omega
      refine z_iload_n g dX9_onlyLetterTold_4 rfl ?_
      refine z_aload_n g dX9_onlyLetterTold_5 rfl ?_
      refine z_getR g fl_X9_9 (by assumption) (by decide) rfl (by assumption) dX9_onlyLetterTold_6 ?_
      refine z_alenIk g (by assumption) (by decide) dX9_onlyLetterTold_9 ?_
      refine z_icmp_ge (tgt := 38) g dX9_onlyLetterTold_10 (by decide) (fun c_10 => ?_) (fun c_10 => ?_)
      · rw [ha, nI_leI (by omega) (by omega)] at c_10
        rw [show j = 26 by omega]
        refine z_iload_n g dX9_onlyLetterTold_38 rfl ?_
        exact z_iret g hrt rfl (by decide) (by decide) dX9_onlyLetterTold_39 ⟨by rw [oLT], rfl⟩
      have h10 : j < 26 := by rw [ha, nI_leI (by omega) (by omega)] at c_10; omega
      refine z_aload_n g dX9_onlyLetterTold_13 rfl ?_
      refine z_getR g fl_X9_9 (by assumption) (by decide) rfl (by assumption) dX9_onlyLetterTold_14 ?_
      refine z_iload_n g dX9_onlyLetterTold_17 rfl ?_
      refine z_ialdk (k := 171) g (by assumption) (by decide) (vp_in_nI (by omega) (by omega)) dX9_onlyLetterTold_18 ?_
      rw [nI_clamp (by omega)]
      refine z_iload_n g dX9_onlyLetterTold_19 rfl ?_
      refine z_icmp_ne (tgt := 32) g dX9_onlyLetterTold_20 (by decide) (fun c_20 => ?_) (fun c_20 => ?_)
      · refine z_iinc1 g dX9_onlyLetterTold_32 rfl (by rw [hN]; decide) ?_
        refine z_goto (tgt := 4) g dX9_onlyLetterTold_35 (by decide) ?_
        have hs := fun h9 => ih (k - 1) (by omega) (j + 1) (by omega) h9
        rw [nI_s]
        first
          | (have h8 : cntB (fI M a) v j = 0 := by
               by_cases z : cntB (fI M a) v j = 1
               · exact absurd ((show oLT (fI M a) v j = nI (lasB (fI M a) v j) from if_pos z).symm.trans c_25) (m1_ne (lasB_lt hj26))
               · omega
             have h9 : cntB (fI M a) v (j + 1) = 1 := by rw [cntB, if_pos c_20, h8]
             have hs := hs (by omega)
             rw [show oLT (fI M a) v (j + 1) = nI (j + 1) by rw [oLT, if_pos h9, lasB, if_pos c_20]] at hs
             exact z_to hs ⟨rfl, rfl, rfl, rfl, trivial⟩)
          | (have hs := hs (by rw [cntB, if_neg c_20]; exact hc1)
             rw [show oLT (fI M a) v (j + 1) = oLT (fI M a) v j by rw [oLT, cntB, if_neg c_20, lasB, if_neg c_20]; rfl] at hs
             exact z_to hs ⟨rfl, rfl, rfl, rfl, trivial⟩)
      · refine z_iload_n g dX9_onlyLetterTold_23 rfl ?_
        refine z_iconst (v := (-1)) g dX9_onlyLetterTold_24 (by decide) ?_
        refine z_icmp_eq (tgt := 30) g dX9_onlyLetterTold_25 (by decide) (fun c_25 => ?_) (fun c_25 => ?_)
        · refine z_iload_n g dX9_onlyLetterTold_30 rfl ?_
          refine z_istore_n g dX9_onlyLetterTold_31 (by rw [hN]; decide) ?_
          refine z_iinc1 g dX9_onlyLetterTold_32 rfl (by rw [hN]; decide) ?_
          refine z_goto (tgt := 4) g dX9_onlyLetterTold_35 (by decide) ?_
          have hs := fun h9 => ih (k - 1) (by omega) (j + 1) (by omega) h9
          rw [nI_s]
          first
            | (have h8 : cntB (fI M a) v j = 0 := by
                 by_cases z : cntB (fI M a) v j = 1
                 · exact absurd ((show oLT (fI M a) v j = nI (lasB (fI M a) v j) from if_pos z).symm.trans c_25) (m1_ne (lasB_lt hj26))
                 · omega
               have h9 : cntB (fI M a) v (j + 1) = 1 := by rw [cntB, if_pos c_20, h8]
               have hs := hs (by omega)
               rw [show oLT (fI M a) v (j + 1) = nI (j + 1) by rw [oLT, if_pos h9, lasB, if_pos c_20]] at hs
               exact z_to hs ⟨rfl, rfl, rfl, rfl, trivial⟩)
            | (have hs := hs (by rw [cntB, if_neg c_20]; exact hc1)
               rw [show oLT (fI M a) v (j + 1) = oLT (fI M a) v j by rw [oLT, cntB, if_neg c_20, lasB, if_neg c_20]; rfl] at hs
               exact z_to hs ⟨rfl, rfl, rfl, rfl, trivial⟩)
        · refine z_iconst (v := (-1)) g dX9_onlyLetterTold_28 (by decide) ?_
          exact z_iret g hrt rfl (by decide) (by decide) dX9_onlyLetterTold_29 ⟨by
        have h8 : cntB (fI M a) v j = 1 := by
          by_cases z : cntB (fI M a) v j = 1
          · exact z
          · exact absurd (show oLT (fI M a) v j = -1 from if_neg z) c_25
        have h9 : cntB (fI M a) v (j + 1) = 2 := by rw [cntB, if_pos c_20, h8]
        have h7 := cntB_mono (g := fI M a) (v := v) (show j + 1 ≤ 26 by omega)
        rw [show oLT (fI M a) v 26 = -1 from if_neg (by omega)], rfl⟩
  refine z_iconst (v := (-1)) g dX9_onlyLetterTold_0 (by decide) ?_
  refine z_istore_n g dX9_onlyLetterTold_1 (by rw [hN]; decide) ?_
  refine z_iconst (v := 1) g dX9_onlyLetterTold_2 (by decide) ?_
  refine z_istore_n g dX9_onlyLetterTold_3 (by rw [hN]; decide) ?_
  exact z_to (loop 26 0 rfl (Nat.zero_le _)) ⟨rfl, rfl, rfl, rfl, trivial⟩
set_option maxHeartbeats 4000000 in
set_option maxRecDepth 100000 in
theorem c_cDif (E : Ev) (M : Mm) (t a : Nat) (k1 : kd M t % 1000 = 10) (hf : fR M t 0 = some a) (k2 : kd M a % 1000 = 171) (ha : ln M a = 27) {s : Nat} (hs26 : setB (fI M a) 26 = nI s) (hs27 : s < 2 ^ 27) : CT E yX9_countDifferent cX9_countDifferent 3 (some .int) 2 0 0 [.ref t] M (ansI (nI (pop s)) M) noX := by
  refine CT.of rfl (Nat.le_of_ble_eq_true rfl) (fun X g hrt hno hE hN hR hI => ?_)
  subst hE
  have loop : ∀ (k j : Nat) (hk : k + j = 26), Z X M 0 0 4 [(0, .ref t), (1, .int (setB (fI M a) j)), (2, .int (nI (j + 1)))] [] := by
    intro k
    induction k using Nat.strongRecOn with
    | _ k ih =>
      intro j hk
      refine z_iload_n g dX9_countDifferent_4 rfl ?_
      refine z_aload_n g dX9_countDifferent_5 rfl ?_
      refine z_getR g fl_X9_9 (by assumption) (by decide) rfl (by assumption) dX9_countDifferent_6 ?_
      refine z_alenIk g (by assumption) (by decide) dX9_countDifferent_9 ?_
      refine z_icmp_ge (tgt := 30) g dX9_countDifferent_10 (by decide) (fun c_10 => ?_) (fun c_10 => ?_)
      · rw [ha, nI_leI (by omega) (by omega)] at c_10
        rw [show j = 26 by omega, hs26]
        refine z_iload_n g dX9_countDifferent_30 rfl ?_
        refine z_callS g _ _ cs_X9_15 (c_bitc _ M s hs27) rfl (by rw [hR]; decide) (by rw [hR]; decide) (by rw [hR]; decide) (Nat.le_of_ble_eq_true rfl) rfl dX9_countDifferent_31 (fun _ _ h => False.elim h) (fun r_31 M_31 h_31 => ?_)
        obtain ⟨rfl, rfl⟩ := h_31
        exact z_iret g hrt rfl (by decide) (by decide) dX9_countDifferent_34 ⟨rfl, rfl⟩
      have h10 : j < 26 := by rw [ha, nI_leI (by omega) (by omega)] at c_10; omega
      refine z_iload_n g dX9_countDifferent_13 rfl ?_
      refine z_iconst (v := 1) g dX9_countDifferent_14 (by decide) ?_
      refine z_aload_n g dX9_countDifferent_15 rfl ?_
      refine z_getR g fl_X9_9 (by assumption) (by decide) rfl (by assumption) dX9_countDifferent_16 ?_
      refine z_iload_n g dX9_countDifferent_19 rfl ?_
      refine z_ialdk (k := 171) g (by assumption) (by decide) (vp_in_nI (by omega) (by omega)) dX9_countDifferent_20 ?_
      rw [nI_clamp (by omega)]
      refine z_ishl g dX9_countDifferent_21 ?_
      refine z_ior g dX9_countDifferent_22 ?_
      refine z_istore_n g dX9_countDifferent_23 (by rw [hN]; decide) ?_
      refine z_iinc1 g dX9_countDifferent_24 rfl (by rw [hN]; decide) ?_
      refine z_goto (tgt := 4) g dX9_countDifferent_27 (by decide) ?_
      rw [nI_s]
      exact z_to (ih (k - 1) (by omega) (j + 1) (by omega)) ⟨rfl, rfl, rfl, trivial⟩
  refine z_iconst (v := 0) g dX9_countDifferent_0 (by decide) ?_
  refine z_istore_n g dX9_countDifferent_1 (by rw [hN]; decide) ?_
  refine z_iconst (v := 1) g dX9_countDifferent_2 (by decide) ?_
  refine z_istore_n g dX9_countDifferent_3 (by rw [hN]; decide) ?_
  exact z_to (loop 26 0 rfl) ⟨rfl, rfl, rfl, trivial⟩
