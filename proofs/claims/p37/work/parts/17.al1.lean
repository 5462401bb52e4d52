set_option maxHeartbeats 4000000 in
set_option maxRecDepth 100000 in
theorem c_acinit (E : Ev) (M : Mm) (a : Nat) : CT E yJxa1e45_init_da8c8 cJxa1e45_init_da8c8 1 none 1 0 0 [.ref a] M (ansV M) noX := by
  refine CT.of rfl (Nat.le_of_ble_eq_true rfl) (fun X g hrt hno hE hN hR hI => ?_)
  subst hE
  refine z_aload_n g dJxa1e45_init_da8c8_0 rfl ?_
  refine z_objInit g oi_Jxa1e45 oi_inst oi_code (by rw [hR]; decide) (by rw [hR]; decide) dJxa1e45_init_da8c8_1 ?_
  exact z_vret g hrt (by decide) (by decide) dJxa1e45_init_da8c8_4 ⟨rfl, rfl⟩
set_option maxHeartbeats 4000000 in
set_option maxRecDepth 100000 in
theorem c_alinit0 (E : Ev) (M : Mm) (a : Nat) (k1 : kd M a % 1000 = 20) : CT E yJxc12de_init_da8c8 cJxc12de_init_da8c8 1 none 2 0 0 [.ref a] M (ansV (sI M a 0 0)) noX := by
  refine CT.of rfl (Nat.le_of_ble_eq_true rfl) (fun X g hrt hno hE hN hR hI => ?_)
  subst hE
  refine z_aload_n g dJxc12de_init_da8c8_0 rfl ?_
  refine z_callI g _ _ ci_Jxc12de_1 (c_acinit _ M a) rfl (by rw [hR]; decide) (by rw [hR]; decide) (by rw [hR]; decide) (Nat.le_of_ble_eq_true rfl) rfl dJxc12de_init_da8c8_1 (fun _ _ h => False.elim h) (fun r_1 M_1 h_1 => ?_)
  obtain ⟨rfl, rfl⟩ := h_1
  refine z_aload_n g dJxc12de_init_da8c8_4 rfl ?_
  refine z_iconst (v := 0) g dJxc12de_init_da8c8_5 (by decide) ?_
  refine z_putI g fp_Jxc12de_7 (by assumption) (by decide) rfl (fun h => nomatch h) dJxc12de_init_da8c8_6 ?_
  exact z_vret g hrt (by decide) (by decide) dJxc12de_init_da8c8_9 ⟨rfl, rfl⟩
theorem gs_39 : Cond.fieldLink RJx4a65c 39 "java/util/ArrayList" "DEFAULTCAPACITY_EMPTY_ELEMENTDATA" "[Ljava/lang/Object;" ∈ lw_tbl := (mT 54 (by decide +kernel))
set_option maxHeartbeats 4000000 in
set_option maxRecDepth 100000 in
theorem c_alinit (E : Ev) (M : Mm) (a c : Nat) (k1 : kd M a = 20) (k2 : fI M a 2 = 0) (hc : 400 ≤ c % 1000) : CT E yJx4a65c_init_da8c8 cJx4a65c_init_da8c8 1 none 3 0 0 [.ref a] M (ansV (sN (sK M a c) a 0)) noX := by
  refine CT.of rfl (Nat.le_of_ble_eq_true rfl) (fun X g hrt hno hE hN hR hI => ?_)
  subst hE
  refine z_aload_n g dJx4a65c_init_da8c8_0 rfl ?_
  refine z_callI g _ _ ci_Jx4a65c_1 (c_alinit0 _ M a (by rw [k1])) rfl (by rw [hR]; decide) (by rw [hR]; decide) (by rw [hR]; decide) (Nat.le_of_ble_eq_true rfl) rfl dJx4a65c_init_da8c8_1 (fun _ _ h => False.elim h) (fun r_1 M_1 h_1 => ?_)
  obtain ⟨rfl, rfl⟩ := h_1
  refine z_aload_n g dJx4a65c_init_da8c8_4 rfl ?_
  refine z_gets g gs_39 dJx4a65c_init_da8c8_5 ?_
  refine z_putR g fp_Jx4a65c_9 rfl (by show kd M a % 1000 = 20; rw [k1]) (by decide) rfl (fun h => nomatch h) dJx4a65c_init_da8c8_8 ?_
  refine z_mem (M' := sN (sK M a c) a 0) (fun D cy base H h => ?_) ?_
  · have h9 := h
    have hE : kd M (xE X).2.2.2.2 = 390 := by obtain ⟨ed, -, -, hh, -⟩ := h9; exact hh
    have hEa : (xE X).2.2.2.2 ≠ a := fun z => by rw [z, k1] at hE; cases hE
    have l0 : ln (sN (sK M a c) a 0) a = 0 := by rw [ln_sN, if_pos rfl]
    refine rl_close (e := (xE X).2.2.2.2) (c := c) h (by exact k1) (by rw [fR_sR, if_pos ⟨rfl, rfl⟩]) (by rw [l0, fI_sR, fI_sI, if_neg (fun z => by cases z.2), k2]; rfl) (Or.inl ⟨rfl, l0⟩) hc (by rw [kd_sN, kd_sK, if_pos rfl]) (Or.inl rfl) (fun b hb hk => ?_) (by rw [kd_sN, kd_sK, if_neg hEa, hE]; decide) (fun i hi => by rw [l0] at hi; omega)
    refine ⟨by rw [kd_sN, kd_sK, if_neg hb]; rfl, ?_, rfl, ?_, by rw [ln_sN, if_neg hb]; rfl⟩
    · exact (up2_na _ _ hb).symm
    · exact (up2_na _ _ hb).symm
  · exact z_vret g hrt (by decide) (by decide) dJx4a65c_init_da8c8_11 ⟨rfl, rfl⟩
set_option maxHeartbeats 4000000 in
set_option maxRecDepth 100000 in
theorem c_alsize (E : Ev) (M : Mm) (a : Nat) (ha : 400 ≤ kd M a % 1000) : CT E yJx4a65c_size_8abf5 cJx4a65c_size_8abf5 1 (some .int) 1 0 0 [.ref a] M (ansI (nI (ln M a)) M) noX := by
  refine CT.of rfl (Nat.le_of_ble_eq_true rfl) (fun X g hrt hno hE hN hR hI => ?_)
  subst hE
  refine z_open (a := a) ha (fun e n f mc ro h3 => ?_)
  have k1 : kd (opn M a e n f mc) a % 1000 = 20 := by rw [kd_opn, if_pos rfl]
  refine z_aload_n g dJx4a65c_size_8abf5_0 rfl ?_
  refine z_getI g fl_Jx4a65c_48 (by assumption) (by decide) rfl dJx4a65c_size_8abf5_1 ?_
  rw [fI_opn2]
  refine z_shut ro h3 ha ?_
  exact z_iret g hrt rfl (by decide) (by decide) dJx4a65c_size_8abf5_4 ⟨rfl, rfl⟩
theorem b2i_e1 {n : Nat} (hl : n < 2 ^ 31) (c : nI n = 0) : some (Value.int 1) = some (Value.int (b2i (decide (n = 0)))) := by
  have h : n = 0 := (nI_eq hl (by decide)).mp (c.trans nI_0.symm)
  rw [h]; rfl
theorem b2i_e0 {n : Nat} (hl : n < 2 ^ 31) (c : ¬ nI n = 0) : some (Value.int 0) = some (Value.int (b2i (decide (n = 0)))) := by
  have h : ¬ n = 0 := fun z => c (by rw [z]; exact nI_0)
  rw [show decide (n = 0) = false from decide_eq_false h]; rfl
set_option maxHeartbeats 4000000 in
set_option maxRecDepth 100000 in
theorem c_alempty (E : Ev) (M : Mm) (a : Nat) (ha : 400 ≤ kd M a % 1000) (hl : ln M a < 2 ^ 31) : CT E yJx4a65c_isEmpty_aae02 cJx4a65c_isEmpty_aae02 1 (some .boolean) 1 0 0 [.ref a] M (ansI (b2i (decide (ln M a = 0))) M) noX := by
  refine CT.of rfl (Nat.le_of_ble_eq_true rfl) (fun X g hrt hno hE hN hR hI => ?_)
  subst hE
  refine z_open (a := a) ha (fun e n f mc ro h3 => ?_)
  have k1 : kd (opn M a e n f mc) a % 1000 = 20 := by rw [kd_opn, if_pos rfl]
  refine z_aload_n g dJx4a65c_isEmpty_aae02_0 rfl ?_
  refine z_getI g fl_Jx4a65c_48 (by assumption) (by decide) rfl dJx4a65c_isEmpty_aae02_1 ?_
  rw [fI_opn2]
  refine z_if_ne (tgt := 11) g dJx4a65c_isEmpty_aae02_4 (by decide) (fun c_4 => ?_) (fun c_4 => ?_)
  · refine z_iconst (v := 0) g dJx4a65c_isEmpty_aae02_11 (by decide) ?_
    refine z_shut ro h3 ha ?_
    exact z_iret g hrt (by decide) (by decide) (by decide) dJx4a65c_isEmpty_aae02_12 ⟨by first | exact b2i_e1 hl c_4 | exact b2i_e0 hl c_4, rfl⟩
  · refine z_iconst (v := 1) g dJx4a65c_isEmpty_aae02_7 (by decide) ?_
    refine z_goto (tgt := 12) g dJx4a65c_isEmpty_aae02_8 (by decide) ?_
    refine z_shut ro h3 ha ?_
    exact z_iret g hrt (by decide) (by decide) (by decide) dJx4a65c_isEmpty_aae02_12 ⟨by first | exact b2i_e1 hl c_4 | exact b2i_e0 hl c_4, rfl⟩
set_option maxHeartbeats 4000000 in
set_option maxRecDepth 100000 in
theorem c_chk3 (E : Ev) (M : Mm) (i j : Nat) (hij : i < j) (hj : j < 2 ^ 31) (hi : i < 2 ^ 31) : CT E yJ3_checkIndex_8e157 cJ3_checkIndex_8e157 3 (some .int) 1 0 0 [.int (nI i), .int (nI j), .null] M (ansI (nI i) M) noX := by
  refine CT.of rfl (Nat.le_of_ble_eq_true rfl) (fun X g hrt hno hE hN hR hI => ?_)
  subst hE
  refine z_iload_n g dJ3_checkIndex_8e157_0 rfl ?_
  refine z_if_lt (tgt := 9) g dJ3_checkIndex_8e157_1 (by decide) (fun c_1 => (by exact absurd c_1 (nI_pos hi))) (fun c_1 => ?_)
  refine z_iload_n g dJ3_checkIndex_8e157_4 rfl ?_
  refine z_iload_n g dJ3_checkIndex_8e157_5 rfl ?_
  refine z_icmp_lt (tgt := 16) g dJ3_checkIndex_8e157_6 (by decide) (fun c_6 => ?_) (fun c_6 => (by exact absurd (nI_lt hij hj) c_6))
  refine z_iload_n g dJ3_checkIndex_8e157_16 rfl ?_
  exact z_iret g hrt rfl (by decide) (by decide) dJ3_checkIndex_8e157_17 ⟨rfl, rfl⟩
set_option maxHeartbeats 4000000 in
set_option maxRecDepth 100000 in
theorem c_chk2 (E : Ev) (M : Mm) (i j : Nat) (hij : i < j) (hj : j < 2 ^ 31) (hi : i < 2 ^ 31) : CT E yJ15_checkIndex_7cf53 cJ15_checkIndex_7cf53 2 (some .int) 2 0 0 [.int (nI i), .int (nI j)] M (ansI (nI i) M) noX := by
  refine CT.of rfl (Nat.le_of_ble_eq_true rfl) (fun X g hrt hno hE hN hR hI => ?_)
  subst hE
  refine z_iload_n g dJ15_checkIndex_7cf53_0 rfl ?_
  refine z_iload_n g dJ15_checkIndex_7cf53_1 rfl ?_
  refine z_null g dJ15_checkIndex_7cf53_2 ?_
  refine z_callS g _ _ cs_J15_105 (c_chk3 _ M i j hij hj hi) rfl (by rw [hR]; decide) (by rw [hR]; decide) (by rw [hR]; decide) (Nat.le_of_ble_eq_true rfl) rfl dJ15_checkIndex_7cf53_3 (fun _ _ h => False.elim h) (fun r_3 M_3 h_3 => ?_)
  obtain ⟨rfl, rfl⟩ := h_3
  exact z_iret g hrt rfl (by decide) (by decide) dJ15_checkIndex_7cf53_6 ⟨rfl, rfl⟩
set_option maxHeartbeats 4000000 in
set_option maxRecDepth 100000 in
theorem c_aldata (E : Ev) (M : Mm) (a e i v : Nat) (k1 : kd M a % 1000 = 20) (k2 : fR M a 1 = some e) (k3 : 300 ≤ kd M e % 1000) (k4 : kd M e % 1000 < 400) (hi : i < ln M e) (hn : ln M e < 2 ^ 31) (hv : fR M e i = some v) : CT E yJx4a65c_elementData_915e3 cJx4a65c_elementData_915e3 2 (some (.object "java/lang/Object")) 1 0 0 [.ref a, .int (nI i)] M (ansR v M) noX := by
  refine CT.of rfl (Nat.le_of_ble_eq_true rfl) (fun X g hrt hno hE hN hR hI => ?_)
  subst hE
  refine z_aload_n g dJx4a65c_elementData_915e3_0 rfl ?_
  refine z_getR g fl_Jx4a65c_9 (by assumption) (by decide) rfl (by assumption) dJx4a65c_elementData_915e3_1 ?_
  refine z_iload_n g dJx4a65c_elementData_915e3_4 rfl ?_
  refine z_aald g (by omega) (by omega) (vp_in_nI hi hn) (by rw [nI_clamp (by omega)]; exact hv) dJx4a65c_elementData_915e3_5 ?_
  exact z_aret g hrt (Or.inl ⟨_, rfl⟩) (Or.inr ⟨_, rfl⟩) (by decide) (by decide) dJx4a65c_elementData_915e3_6 ⟨rfl, rfl⟩
set_option maxHeartbeats 4000000 in
set_option maxRecDepth 100000 in
theorem c_alget (E : Ev) (M : Mm) (a i v : Nat) (ha : 400 ≤ kd M a % 1000) (hi : i < ln M a) (hl : ln M a < 2 ^ 31) (hv : fR M a i = some v) : CT E yJx4a65c_get_915e3 cJx4a65c_get_915e3 2 (some (.object "java/lang/Object")) 3 0 0 [.ref a, .int (nI i)] M (ansR v M) noX := by
  refine CT.of rfl (Nat.le_of_ble_eq_true rfl) (fun X g hrt hno hE hN hR hI => ?_)
  subst hE
  refine z_open (a := a) ha (fun e n f mc ro h3 => ?_)
  have k1 : kd (opn M a e n f mc) a % 1000 = 20 := by rw [kd_opn, if_pos rfl]
  obtain ⟨q1, q2, q3, q4⟩ := opn_row (mc := mc) ro h3
  have k5 : 300 ≤ kd (opn M a e n f mc) e % 1000 ∧ kd (opn M a e n f mc) e % 1000 < 400 := by
    rw [kd_opn, if_neg ro.2.2.2.1, if_pos rfl]; split <;> decide
  refine z_iload_n g dJx4a65c_get_915e3_0 rfl ?_
  refine z_aload_n g dJx4a65c_get_915e3_1 rfl ?_
  refine z_getI g fl_Jx4a65c_48 (by assumption) (by decide) rfl dJx4a65c_get_915e3_2 ?_
  rw [fI_opn2]
  refine z_callS g _ _ cs_Jx4a65c_118 (c_chk2 _ _ i (ln M a) hi (by omega) (by omega)) rfl (by rw [hR]; decide) (by rw [hR]; decide) (by rw [hR]; decide) (Nat.le_of_ble_eq_true rfl) rfl dJx4a65c_get_915e3_5 (fun _ _ h => False.elim h) (fun r_5 M_5 h_5 => ?_)
  obtain ⟨rfl, rfl⟩ := h_5
  refine z_pop g dJx4a65c_get_915e3_8 rfl ?_
  refine z_aload_n g dJx4a65c_get_915e3_9 rfl ?_
  refine z_iload_n g dJx4a65c_get_915e3_10 rfl ?_
  refine z_callV g _ _ cv_Jx4a65c_123 (c_aldata _ _ a e i v k1 fR_opn1 k5.1 k5.2 (by rw [q3]; exact Nat.lt_of_lt_of_le hi ro.1) (by rw [q3]; have := ro.2.1; omega) (by rw [q4, ro.2.2.1 i hi]; exact hv)) k1 (by decide) rfl (by rw [hR]; decide) (by rw [hR]; decide) (by rw [hR]; decide) (Nat.le_of_ble_eq_true rfl) rfl dJx4a65c_get_915e3_11 (fun _ _ h => False.elim h) (fun r_11 M_11 h_11 => ?_)
  obtain ⟨rfl, rfl⟩ := h_11
  refine z_shut ro h3 ha ?_
  exact z_aret g hrt (Or.inl ⟨_, rfl⟩) (Or.inr ⟨_, rfl⟩) (by decide) (by decide) dJx4a65c_get_915e3_14 ⟨rfl, rfl⟩
