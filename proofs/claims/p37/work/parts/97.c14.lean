set_option maxHeartbeats 4000000 in
set_option maxRecDepth 100000 in
theorem c_X3n (E : Ev) (M : Mm) (o f : Nat) (k1 : kd M o % 1000 = 4) (kn tl : Int32) : CT E yX3_init cX3_init 3 none 5 7 18 [.ref o, .int kn, .int tl] M ((fun r M' => ∃ h1 l1 h2 l2 nl el ha, r = none ∧ (kd M h1 = 0 ∧ kd M l1 = 0 ∧ kd M h2 = 0 ∧ kd M l2 = 0 ∧ kd M nl = 0 ∧ kd M el = 0 ∧ kd M ha = 0) ∧ FNew M M' o f kn tl h1 l1 h2 l2 nl el ha)) noX := by
  refine CT.of rfl (Nat.le_of_ble_eq_true rfl) (fun X g hrt hno hE hN hR hI => ?_)
  subst hE
  refine z_aload_n g dX3_init_0 rfl ?_
  refine z_objInit g oi_X3 oi_inst oi_code (by rw [hR]; decide) (by rw [hR]; decide) dX3_init_1 ?_
  refine z_aload_n g dX3_init_4 rfl ?_
  refine z_new g (5 + 2000 * f) nw_X3_9 (by omega) (by decide) (by rw [hR]; decide) (by rw [hR]; decide) dX3_init_5 (fun h1 zh1 => ?_)
  have n_o_h1 : o ≠ h1 := fun z => by rw [← z] at zh1; omega
  have n_h1_o : h1 ≠ o := fun z => n_o_h1 z.symm
  refine z_dup g dX3_init_8 rfl ?_
  refine z_callI g _ _ ci_X3_11 (c_X4i _ _ h1 (412 + 1000 * f) (by rw [kd_al, if_pos rfl]; omega) (by omega)) rfl (by rw [hR]; decide) (by rw [hR]; decide) (by rw [hR]; decide) (Nat.le_of_ble_eq_true rfl) rfl dX3_init_9 (fun _ _ h => False.elim h) (fun r_9 M_9 h_9 => ?_)
  obtain ⟨l1, zl1, rfl, rfl⟩ := h_9
  rw [show sR (alL (al M h1 (5 + 2000 * f) 0) l1 (412 + 1000 * f)) h1 0 (some l1) = hst M h1 l1 (5 + 2000 * f) (412 + 1000 * f) from rfl]
  simp only [kd_sR, kd_hst, kd_alL, kd_al] at zl1
  obtain ⟨n_l1_h1, zl1⟩ := ite_z (by omega) zl1
  have n_o_l1 : o ≠ l1 := fun z => by rw [← z] at zl1; omega
  have n_l1_o : l1 ≠ o := fun z => n_o_l1 z.symm
  have n_h1_l1 : h1 ≠ l1 := fun z => n_l1_h1 z.symm
  refine z_putR g fp_X3_12 rfl (by simp only [kd_sR, kd_hst, kd_alL, kd_al]; rw [if_neg n_o_l1, if_neg n_o_h1]; omega) (by decide) rfl (fun _ => hI rfl) dX3_init_12 ?_
  refine z_aload_n g dX3_init_15 rfl ?_
  refine z_new g (1005 + 2000 * f) nw_X3_9 (by omega) (by decide) (by rw [hR]; decide) (by rw [hR]; decide) dX3_init_16 (fun h2 zh2 => ?_)
  simp only [kd_sR, kd_hst, kd_alL, kd_al] at zh2
  obtain ⟨n_h2_l1, zh2⟩ := ite_z (by omega) zh2
  obtain ⟨n_h2_h1, zh2⟩ := ite_z (by omega) zh2
  have n_o_h2 : o ≠ h2 := fun z => by rw [← z] at zh2; omega
  have n_h2_o : h2 ≠ o := fun z => n_o_h2 z.symm
  have n_l1_h2 : l1 ≠ h2 := fun z => n_h2_l1 z.symm
  have n_h1_h2 : h1 ≠ h2 := fun z => n_h2_h1 z.symm
  refine z_dup g dX3_init_19 rfl ?_
  refine z_callI g _ _ ci_X3_11 (c_X4i _ _ h2 (413 + 1000 * f) (by rw [kd_al, if_pos rfl]; omega) (by omega)) rfl (by rw [hR]; decide) (by rw [hR]; decide) (by rw [hR]; decide) (Nat.le_of_ble_eq_true rfl) rfl dX3_init_20 (fun _ _ h => False.elim h) (fun r_20 M_20 h_20 => ?_)
  obtain ⟨l2, zl2, rfl, rfl⟩ := h_20
  rw [show sR (alL (al (sR (hst M h1 l1 (5 + 2000 * f) (412 + 1000 * f)) o 2 (some h1)) h2 (1005 + 2000 * f) 0) l2 (413 + 1000 * f)) h2 0 (some l2) = hst (sR (hst M h1 l1 (5 + 2000 * f) (412 + 1000 * f)) o 2 (some h1)) h2 l2 (1005 + 2000 * f) (413 + 1000 * f) from rfl]
  simp only [kd_sR, kd_hst, kd_alL, kd_al] at zl2
  obtain ⟨n_l2_h2, zl2⟩ := ite_z (by omega) zl2
  obtain ⟨n_l2_l1, zl2⟩ := ite_z (by omega) zl2
  obtain ⟨n_l2_h1, zl2⟩ := ite_z (by omega) zl2
  have n_o_l2 : o ≠ l2 := fun z => by rw [← z] at zl2; omega
  have n_l2_o : l2 ≠ o := fun z => n_o_l2 z.symm
  have n_h2_l2 : h2 ≠ l2 := fun z => n_l2_h2 z.symm
  have n_l1_l2 : l1 ≠ l2 := fun z => n_l2_l1 z.symm
  have n_h1_l2 : h1 ≠ l2 := fun z => n_l2_h1 z.symm
  refine z_putR g fp_X3_18 rfl (by simp only [kd_sR, kd_hst, kd_alL, kd_al]; rw [if_neg n_o_l2, if_neg n_o_h2, if_neg n_o_l1, if_neg n_o_h1]; omega) (by decide) rfl (fun _ => hI rfl) dX3_init_23 ?_
  refine z_aload_n g dX3_init_26 rfl ?_
  refine z_new g 20 nw_X3_21 (by omega) (by decide) (by rw [hR]; decide) (by rw [hR]; decide) dX3_init_27 (fun nl znl => ?_)
  simp only [kd_sR, kd_hst, kd_alL, kd_al] at znl
  obtain ⟨n_nl_l2, znl⟩ := ite_z (by omega) znl
  obtain ⟨n_nl_h2, znl⟩ := ite_z (by omega) znl
  obtain ⟨n_nl_l1, znl⟩ := ite_z (by omega) znl
  obtain ⟨n_nl_h1, znl⟩ := ite_z (by omega) znl
  have n_o_nl : o ≠ nl := fun z => by rw [← z] at znl; omega
  have n_nl_o : nl ≠ o := fun z => n_o_nl z.symm
  have n_l2_nl : l2 ≠ nl := fun z => n_nl_l2 z.symm
  have n_h2_nl : h2 ≠ nl := fun z => n_nl_h2 z.symm
  have n_l1_nl : l1 ≠ nl := fun z => n_nl_l1 z.symm
  have n_h1_nl : h1 ≠ nl := fun z => n_nl_h1 z.symm
  refine z_dup g dX3_init_30 rfl ?_
  refine z_callI g _ _ ci_X3_23 (c_alinit _ _ nl (410 + 1000 * f) (by rw [kd_al, if_pos rfl]) (by rw [fI_al, if_pos rfl]) (by omega)) rfl (by rw [hR]; decide) (by rw [hR]; decide) (by rw [hR]; decide) (Nat.le_of_ble_eq_true rfl) rfl dX3_init_31 (fun _ _ h => False.elim h) (fun r_31 M_31 h_31 => ?_)
  obtain ⟨rfl, rfl⟩ := h_31
  rw [← alL]
  refine z_putR g fp_X3_24 rfl (by simp only [kd_sR, kd_hst, kd_alL, kd_al]; rw [if_neg n_o_nl, if_neg n_o_l2, if_neg n_o_h2, if_neg n_o_l1, if_neg n_o_h1]; omega) (by decide) rfl (fun _ => hI rfl) dX3_init_34 ?_
  refine z_aload_n g dX3_init_37 rfl ?_
  refine z_new g 20 nw_X3_21 (by omega) (by decide) (by rw [hR]; decide) (by rw [hR]; decide) dX3_init_38 (fun el zel => ?_)
  simp only [kd_sR, kd_hst, kd_alL, kd_al] at zel
  obtain ⟨n_el_nl, zel⟩ := ite_z (by omega) zel
  obtain ⟨n_el_l2, zel⟩ := ite_z (by omega) zel
  obtain ⟨n_el_h2, zel⟩ := ite_z (by omega) zel
  obtain ⟨n_el_l1, zel⟩ := ite_z (by omega) zel
  obtain ⟨n_el_h1, zel⟩ := ite_z (by omega) zel
  have n_o_el : o ≠ el := fun z => by rw [← z] at zel; omega
  have n_el_o : el ≠ o := fun z => n_o_el z.symm
  have n_nl_el : nl ≠ el := fun z => n_el_nl z.symm
  have n_l2_el : l2 ≠ el := fun z => n_el_l2 z.symm
  have n_h2_el : h2 ≠ el := fun z => n_el_h2 z.symm
  have n_l1_el : l1 ≠ el := fun z => n_el_l1 z.symm
  have n_h1_el : h1 ≠ el := fun z => n_el_h1 z.symm
  refine z_dup g dX3_init_41 rfl ?_
  refine z_callI g _ _ ci_X3_23 (c_alinit _ _ el (411 + 1000 * f) (by rw [kd_al, if_pos rfl]) (by rw [fI_al, if_pos rfl]) (by omega)) rfl (by rw [hR]; decide) (by rw [hR]; decide) (by rw [hR]; decide) (Nat.le_of_ble_eq_true rfl) rfl dX3_init_42 (fun _ _ h => False.elim h) (fun r_42 M_42 h_42 => ?_)
  obtain ⟨rfl, rfl⟩ := h_42
  rw [← alL]
  refine z_putR g fp_X3_28 rfl (by simp only [kd_sR, kd_hst, kd_alL, kd_al]; rw [if_neg n_o_el, if_neg n_o_nl, if_neg n_o_l2, if_neg n_o_h2, if_neg n_o_l1, if_neg n_o_h1]; omega) (by decide) rfl (fun _ => hI rfl) dX3_init_45 ?_
  refine z_aload_n g dX3_init_48 rfl ?_
  refine z_iconst (v := 4) g dX3_init_49 (by decide) ?_
  refine z_newI (N := 4) g (170 + 1000 * f) (by omega) (by omega) ac_int (by decide) (by decide) (by decide) (by rw [hR]; decide) (by rw [hR]; decide) dX3_init_50 (fun ha zha => ?_)
  simp only [kd_sR, kd_hst, kd_alL, kd_al] at zha
  obtain ⟨n_ha_el, zha⟩ := ite_z (by omega) zha
  obtain ⟨n_ha_nl, zha⟩ := ite_z (by omega) zha
  obtain ⟨n_ha_l2, zha⟩ := ite_z (by omega) zha
  obtain ⟨n_ha_h2, zha⟩ := ite_z (by omega) zha
  obtain ⟨n_ha_l1, zha⟩ := ite_z (by omega) zha
  obtain ⟨n_ha_h1, zha⟩ := ite_z (by omega) zha
  have n_o_ha : o ≠ ha := fun z => by rw [← z] at zha; omega
  have n_ha_o : ha ≠ o := fun z => n_o_ha z.symm
  have n_el_ha : el ≠ ha := fun z => n_ha_el z.symm
  have n_nl_ha : nl ≠ ha := fun z => n_ha_nl z.symm
  have n_l2_ha : l2 ≠ ha := fun z => n_ha_l2 z.symm
  have n_h2_ha : h2 ≠ ha := fun z => n_ha_h2 z.symm
  have n_l1_ha : l1 ≠ ha := fun z => n_ha_l1 z.symm
  have n_h1_ha : h1 ≠ ha := fun z => n_ha_h1 z.symm
  refine z_putR g fp_X3_31 rfl (by simp only [kd_sR, kd_hst, kd_alL, kd_al]; rw [if_neg n_o_ha, if_neg n_o_el, if_neg n_o_nl, if_neg n_o_l2, if_neg n_o_h2, if_neg n_o_l1, if_neg n_o_h1]; omega) (by decide) rfl (fun _ => hI rfl) dX3_init_52 ?_
  refine z_aload_n g dX3_init_55 rfl ?_
  refine z_iconst (v := (-1)) g dX3_init_56 (by decide) ?_
  refine z_putI g fp_X3_35 (by simp only [kd_sI, kd_sR, kd_hst, kd_alL, kd_al]; rw [if_neg n_o_ha, if_neg n_o_el, if_neg n_o_nl, if_neg n_o_l2, if_neg n_o_h2, if_neg n_o_l1, if_neg n_o_h1]; omega) (by decide) rfl (fun h => nomatch h) dX3_init_57 ?_
  refine z_aload_n g dX3_init_60 rfl ?_
  refine z_iload_n g dX3_init_61 rfl ?_
  refine z_putI g fp_X3_39 (by simp only [kd_sI, kd_sR, kd_hst, kd_alL, kd_al]; rw [if_neg n_o_ha, if_neg n_o_el, if_neg n_o_nl, if_neg n_o_l2, if_neg n_o_h2, if_neg n_o_l1, if_neg n_o_h1]; omega) (by decide) rfl (fun _ => hI rfl) dX3_init_62 ?_
  refine z_aload_n g dX3_init_65 rfl ?_
  refine z_iload_n g dX3_init_66 rfl ?_
  refine z_putI g fp_X3_42 (by simp only [kd_sI, kd_sR, kd_hst, kd_alL, kd_al]; rw [if_neg n_o_ha, if_neg n_o_el, if_neg n_o_nl, if_neg n_o_l2, if_neg n_o_h2, if_neg n_o_l1, if_neg n_o_h1]; omega) (by decide) rfl (fun _ => hI rfl) dX3_init_67 ?_
  refine z_vret g hrt (by decide) (by decide) dX3_init_70 ⟨h1, l1, h2, l2, nl, el, ha, rfl, ⟨zh1, zl1, zh2, zl2, znl, zel, zha⟩, ?_, ?_, ?_, ?_, ?_, ?_, ?_⟩
  · intro b hb hbo
    have m_h1 : b ≠ h1 := fun z => hb (by rw [z]; exact zh1)
    have m_l1 : b ≠ l1 := fun z => hb (by rw [z]; exact zl1)
    have m_h2 : b ≠ h2 := fun z => hb (by rw [z]; exact zh2)
    have m_l2 : b ≠ l2 := fun z => hb (by rw [z]; exact zl2)
    have m_nl : b ≠ nl := fun z => hb (by rw [z]; exact znl)
    have m_el : b ≠ el := fun z => hb (by rw [z]; exact zel)
    have m_ha : b ≠ ha := fun z => hb (by rw [z]; exact zha)
    exact ((((((((((((same.hst m_h1 m_l1).tr (same.sR hbo)).tr (same.hst m_h2 m_l2)).tr (same.sR hbo)).tr (same.alL m_nl)).tr (same.sR hbo)).tr (same.alL m_el)).tr (same.sR hbo)).tr (same.al m_ha)).tr (same.sR hbo)).tr (same.sI hbo)).tr (same.sI hbo)).tr (same.sI hbo)
  · simp [kd_sI, kd_sR, kd_hst, kd_alL, kd_al, ln_sI, ln_sR, ln_hst, ln_alL, ln_al, fR_sI, fR_sR, fR_hst, fR_alL, fR_al, fI_sI, fI_sR, fI_hst, fI_alL, fI_al, fL_sI, fL_sR, fL_hst, fL_alL, fL_al, n_o_ha, n_ha_o, n_o_el, n_el_o, n_o_nl, n_nl_o, n_o_l2, n_l2_o, n_o_h2, n_h2_o, n_o_l1, n_l1_o, n_o_h1, n_h1_o, n_ha_el, n_ha_nl, n_ha_l2, n_ha_h2, n_ha_l1, n_ha_h1, n_el_ha, n_el_nl, n_el_l2, n_el_h2, n_el_l1, n_el_h1, n_nl_ha, n_nl_el, n_nl_l2, n_nl_h2, n_nl_l1, n_nl_h1, n_l2_ha, n_l2_el, n_l2_nl, n_l2_h2, n_l2_l1, n_l2_h1, n_h2_ha, n_h2_el, n_h2_nl, n_h2_l2, n_h2_l1, n_h2_h1, n_l1_ha, n_l1_el, n_l1_nl, n_l1_l2, n_l1_h2, n_l1_h1, n_h1_ha, n_h1_el, n_h1_nl, n_h1_l2, n_h1_h2, n_h1_l1]
  · refine ⟨?_, ?_, ?_, fun k y1 y2 y3 => ?_⟩
    · simp [kd_sI, kd_sR, kd_hst, kd_alL, kd_al, ln_sI, ln_sR, ln_hst, ln_alL, ln_al, fR_sI, fR_sR, fR_hst, fR_alL, fR_al, fI_sI, fI_sR, fI_hst, fI_alL, fI_al, fL_sI, fL_sR, fL_hst, fL_alL, fL_al, n_o_ha, n_ha_o, n_o_el, n_el_o, n_o_nl, n_nl_o, n_o_l2, n_l2_o, n_o_h2, n_h2_o, n_o_l1, n_l1_o, n_o_h1, n_h1_o, n_ha_el, n_ha_nl, n_ha_l2, n_ha_h2, n_ha_l1, n_ha_h1, n_el_ha, n_el_nl, n_el_l2, n_el_h2, n_el_l1, n_el_h1, n_nl_ha, n_nl_el, n_nl_l2, n_nl_h2, n_nl_l1, n_nl_h1, n_l2_ha, n_l2_el, n_l2_nl, n_l2_h2, n_l2_l1, n_l2_h1, n_h2_ha, n_h2_el, n_h2_nl, n_h2_l2, n_h2_l1, n_h2_h1, n_l1_ha, n_l1_el, n_l1_nl, n_l1_l2, n_l1_h2, n_l1_h1, n_h1_ha, n_h1_el, n_h1_nl, n_h1_l2, n_h1_h2, n_h1_l1]
    · simp [kd_sI, kd_sR, kd_hst, kd_alL, kd_al, ln_sI, ln_sR, ln_hst, ln_alL, ln_al, fR_sI, fR_sR, fR_hst, fR_alL, fR_al, fI_sI, fI_sR, fI_hst, fI_alL, fI_al, fL_sI, fL_sR, fL_hst, fL_alL, fL_al, n_o_ha, n_ha_o, n_o_el, n_el_o, n_o_nl, n_nl_o, n_o_l2, n_l2_o, n_o_h2, n_h2_o, n_o_l1, n_l1_o, n_o_h1, n_h1_o, n_ha_el, n_ha_nl, n_ha_l2, n_ha_h2, n_ha_l1, n_ha_h1, n_el_ha, n_el_nl, n_el_l2, n_el_h2, n_el_l1, n_el_h1, n_nl_ha, n_nl_el, n_nl_l2, n_nl_h2, n_nl_l1, n_nl_h1, n_l2_ha, n_l2_el, n_l2_nl, n_l2_h2, n_l2_l1, n_l2_h1, n_h2_ha, n_h2_el, n_h2_nl, n_h2_l2, n_h2_l1, n_h2_h1, n_l1_ha, n_l1_el, n_l1_nl, n_l1_l2, n_l1_h2, n_l1_h1, n_h1_ha, n_h1_el, n_h1_nl, n_h1_l2, n_h1_h2, n_h1_l1]
    · simp [kd_sI, kd_sR, kd_hst, kd_alL, kd_al, ln_sI, ln_sR, ln_hst, ln_alL, ln_al, fR_sI, fR_sR, fR_hst, fR_alL, fR_al, fI_sI, fI_sR, fI_hst, fI_alL, fI_al, fL_sI, fL_sR, fL_hst, fL_alL, fL_al, n_o_ha, n_ha_o, n_o_el, n_el_o, n_o_nl, n_nl_o, n_o_l2, n_l2_o, n_o_h2, n_h2_o, n_o_l1, n_l1_o, n_o_h1, n_h1_o, n_ha_el, n_ha_nl, n_ha_l2, n_ha_h2, n_ha_l1, n_ha_h1, n_el_ha, n_el_nl, n_el_l2, n_el_h2, n_el_l1, n_el_h1, n_nl_ha, n_nl_el, n_nl_l2, n_nl_h2, n_nl_l1, n_nl_h1, n_l2_ha, n_l2_el, n_l2_nl, n_l2_h2, n_l2_l1, n_l2_h1, n_h2_ha, n_h2_el, n_h2_nl, n_h2_l2, n_h2_l1, n_h2_h1, n_l1_ha, n_l1_el, n_l1_nl, n_l1_l2, n_l1_h2, n_l1_h1, n_h1_ha, n_h1_el, n_h1_nl, n_h1_l2, n_h1_h2, n_h1_l1]
    · simp [kd_sI, kd_sR, kd_hst, kd_alL, kd_al, ln_sI, ln_sR, ln_hst, ln_alL, ln_al, fR_sI, fR_sR, fR_hst, fR_alL, fR_al, fI_sI, fI_sR, fI_hst, fI_alL, fI_al, fL_sI, fL_sR, fL_hst, fL_alL, fL_al, n_o_ha, n_ha_o, n_o_el, n_el_o, n_o_nl, n_nl_o, n_o_l2, n_l2_o, n_o_h2, n_h2_o, n_o_l1, n_l1_o, n_o_h1, n_h1_o, n_ha_el, n_ha_nl, n_ha_l2, n_ha_h2, n_ha_l1, n_ha_h1, n_el_ha, n_el_nl, n_el_l2, n_el_h2, n_el_l1, n_el_h1, n_nl_ha, n_nl_el, n_nl_l2, n_nl_h2, n_nl_l1, n_nl_h1, n_l2_ha, n_l2_el, n_l2_nl, n_l2_h2, n_l2_l1, n_l2_h1, n_h2_ha, n_h2_el, n_h2_nl, n_h2_l2, n_h2_l1, n_h2_h1, n_l1_ha, n_l1_el, n_l1_nl, n_l1_l2, n_l1_h2, n_l1_h1, n_h1_ha, n_h1_el, n_h1_nl, n_h1_l2, n_h1_h2, n_h1_l1, y1, y2, y3]
  · intro k
    simp [kd_sI, kd_sR, kd_hst, kd_alL, kd_al, ln_sI, ln_sR, ln_hst, ln_alL, ln_al, fR_sI, fR_sR, fR_hst, fR_alL, fR_al, fI_sI, fI_sR, fI_hst, fI_alL, fI_al, fL_sI, fL_sR, fL_hst, fL_alL, fL_al, n_o_ha, n_ha_o, n_o_el, n_el_o, n_o_nl, n_nl_o, n_o_l2, n_l2_o, n_o_h2, n_h2_o, n_o_l1, n_l1_o, n_o_h1, n_h1_o, n_ha_el, n_ha_nl, n_ha_l2, n_ha_h2, n_ha_l1, n_ha_h1, n_el_ha, n_el_nl, n_el_l2, n_el_h2, n_el_l1, n_el_h1, n_nl_ha, n_nl_el, n_nl_l2, n_nl_h2, n_nl_l1, n_nl_h1, n_l2_ha, n_l2_el, n_l2_nl, n_l2_h2, n_l2_l1, n_l2_h1, n_h2_ha, n_h2_el, n_h2_nl, n_h2_l2, n_h2_l1, n_h2_h1, n_l1_ha, n_l1_el, n_l1_nl, n_l1_l2, n_l1_h2, n_l1_h1, n_h1_ha, n_h1_el, n_h1_nl, n_h1_l2, n_h1_h2, n_h1_l1]
  · simp [kd_sI, kd_sR, kd_hst, kd_alL, kd_al, ln_sI, ln_sR, ln_hst, ln_alL, ln_al, fR_sI, fR_sR, fR_hst, fR_alL, fR_al, fI_sI, fI_sR, fI_hst, fI_alL, fI_al, fL_sI, fL_sR, fL_hst, fL_alL, fL_al, n_o_ha, n_ha_o, n_o_el, n_el_o, n_o_nl, n_nl_o, n_o_l2, n_l2_o, n_o_h2, n_h2_o, n_o_l1, n_l1_o, n_o_h1, n_h1_o, n_ha_el, n_ha_nl, n_ha_l2, n_ha_h2, n_ha_l1, n_ha_h1, n_el_ha, n_el_nl, n_el_l2, n_el_h2, n_el_l1, n_el_h1, n_nl_ha, n_nl_el, n_nl_l2, n_nl_h2, n_nl_l1, n_nl_h1, n_l2_ha, n_l2_el, n_l2_nl, n_l2_h2, n_l2_l1, n_l2_h1, n_h2_ha, n_h2_el, n_h2_nl, n_h2_l2, n_h2_l1, n_h2_h1, n_l1_ha, n_l1_el, n_l1_nl, n_l1_l2, n_l1_h2, n_l1_h1, n_h1_ha, n_h1_el, n_h1_nl, n_h1_l2, n_h1_h2, n_h1_l1]
  · simp [kd_sI, kd_sR, kd_hst, kd_alL, kd_al, ln_sI, ln_sR, ln_hst, ln_alL, ln_al, fR_sI, fR_sR, fR_hst, fR_alL, fR_al, fI_sI, fI_sR, fI_hst, fI_alL, fI_al, fL_sI, fL_sR, fL_hst, fL_alL, fL_al, n_o_ha, n_ha_o, n_o_el, n_el_o, n_o_nl, n_nl_o, n_o_l2, n_l2_o, n_o_h2, n_h2_o, n_o_l1, n_l1_o, n_o_h1, n_h1_o, n_ha_el, n_ha_nl, n_ha_l2, n_ha_h2, n_ha_l1, n_ha_h1, n_el_ha, n_el_nl, n_el_l2, n_el_h2, n_el_l1, n_el_h1, n_nl_ha, n_nl_el, n_nl_l2, n_nl_h2, n_nl_l1, n_nl_h1, n_l2_ha, n_l2_el, n_l2_nl, n_l2_h2, n_l2_l1, n_l2_h1, n_h2_ha, n_h2_el, n_h2_nl, n_h2_l2, n_h2_l1, n_h2_h1, n_l1_ha, n_l1_el, n_l1_nl, n_l1_l2, n_l1_h2, n_l1_h1, n_h1_ha, n_h1_el, n_h1_nl, n_h1_l2, n_h1_h2, n_h1_l1]
  · simp [kd_sI, kd_sR, kd_hst, kd_alL, kd_al, ln_sI, ln_sR, ln_hst, ln_alL, ln_al, fR_sI, fR_sR, fR_hst, fR_alL, fR_al, fI_sI, fI_sR, fI_hst, fI_alL, fI_al, fL_sI, fL_sR, fL_hst, fL_alL, fL_al, n_o_ha, n_ha_o, n_o_el, n_el_o, n_o_nl, n_nl_o, n_o_l2, n_l2_o, n_o_h2, n_h2_o, n_o_l1, n_l1_o, n_o_h1, n_h1_o, n_ha_el, n_ha_nl, n_ha_l2, n_ha_h2, n_ha_l1, n_ha_h1, n_el_ha, n_el_nl, n_el_l2, n_el_h2, n_el_l1, n_el_h1, n_nl_ha, n_nl_el, n_nl_l2, n_nl_h2, n_nl_l1, n_nl_h1, n_l2_ha, n_l2_el, n_l2_nl, n_l2_h2, n_l2_l1, n_l2_h1, n_h2_ha, n_h2_el, n_h2_nl, n_h2_l2, n_h2_l1, n_h2_h1, n_l1_ha, n_l1_el, n_l1_nl, n_l1_l2, n_l1_h2, n_l1_h1, n_h1_ha, n_h1_el, n_h1_nl, n_h1_l2, n_h1_h2, n_h1_l1]
