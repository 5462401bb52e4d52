/-! ===== the model's days, without a premise (printed by gen/mk_pass2.py) ===== -/
set_option maxHeartbeats 4000000 in
set_option maxRecDepth 100000 in
theorem m_pass2 (E : Ev) {A : Nat → Nat} {m : Nat} {S : Ms} (M : Mm) (hM : RM A m S M) (hV : INV S) (dd : Int32) : CT E yX11_pass cX11_pass 3 (some .int) 6 0 0 [.ref m, .int dd] M (mAns A m (opS (cPass S dd) S (sPass S dd)) M (some (.int (opV (cPass S dd) (vPass S dd) 0)))) noX := by
  refine CT.of rfl (Nat.le_of_ble_eq_true rfl) (fun X g hrt hno hE hN hR hI => ?_)
  subst hE
  obtain ⟨v1, v2, v17, v24, v31, v36, v51, v58, v59⟩ := hV.1
  have hV0 := hV
  obtain ⟨-, vF, vN, vM, vL, vX, vP, vQ, vT, vR, vS, vO⟩ := hV
  have fr0 := FM.rf (A := A) (m := m) (M := M)
  refine z_aload_n g dX11_pass_0 rfl ?_
  refine z_iload_n g dX11_pass_1 rfl ?_
  refine z_iconst (v := 1) g dX11_pass_2 (by decide) ?_
  refine z_sipush (v := 400) g dX11_pass_3 (by decide) ?_
  refine z_callS g _ _ cs_X11_189 (n_in _ M dd 1 400) rfl (by rw [hR]; decide) (by rw [hR]; decide) (by rw [hR]; decide) (Nat.le_of_ble_eq_true rfl) rfl dX11_pass_6 (fun _ _ h => False.elim h) (fun r_6 M_6 h_6 => ?_)
  obtain ⟨rfl, rfl⟩ := h_6
  refine z_if_ne (tgt := 16) g dX11_pass_9 (by decide) (fun c_9 => ?_) (fun c_9 => ?_)
  · first | rw [b2i_0] at c_9 | rw [b2i_n0] at c_9 | skip
    refine z_aload_n g dX11_pass_16 rfl ?_
    refine z_getI g fl_X11_238 hM.k0 (by decide) rfl dX11_pass_17 ?_
    rw [show fI _ m 1 = gi S 1 from hM.sc (k := 1) (by decide) (by decide)]
    refine z_iload_n g dX11_pass_20 rfl ?_
    refine z_iadd g dX11_pass_21 ?_
    refine z_sipush (v := 9999) g dX11_pass_22 (by decide) ?_
    refine z_icmp_le (tgt := 32) g dX11_pass_25 (by decide) (fun c_25 => ?_) (fun c_25 => ?_)
    · refine z_iconst (v := 0) g dX11_pass_32 (by decide) ?_
      have hc : cPass S dd = 0 := by simp [cPass, c_9, eq_true c_25]
      refine z_callV g _ _ cv_X11_234 (n_holds _ M hM fr0 0) hM.k0 (by decide) rfl (by rw [hR]; decide) (by rw [hR]; decide) (by rw [hR]; decide) (Nat.le_of_ble_eq_true rfl) rfl dX11_pass_33 (fun _ _ h => False.elim h) (fun r_33 M1 h_33 => ?_)
      obtain ⟨rfl, hM1, fr1⟩ := h_33
      refine z_if_ne (tgt := 41) g dX11_pass_36 (by decide) (fun _ => ?_) (fun c_36 => absurd c_36 (by decide))
      refine z_iconst (v := 0) g dX11_pass_41 (by decide) ?_
      refine z_istore_n g dX11_pass_42 (by rw [hN]; decide) ?_
      obtain ⟨n4, hn41, hn42, rfl⟩ : ∃ n4, 1 ≤ n4 ∧ n4 ≤ 400 ∧ dd = nI n4 := inb (v := dd) (a := 1) (b := 400) (by decide) (by rw [← Bool.not_eq_false]; exact c_9) (by decide)
      have hn4c : (nI n4).toNatClampNeg = n4 := nI_clamp (by omega)
      have hsum : cn S 1 + n4 ≤ 9999 := by
        have h9 := c_25
        rw [v1.1, nI_add, show (9999 : Int32) = nI 9999 from rfl, nI_leI (by have := v1.2; omega) (by decide)] at h9
        exact h9
      have loop : ∀ (k j : Nat) (M1 : Mm) (hk : k + j = n4) (hM1 : RM A m (psN (wi S 0 0) j) M1) (fr1 : FM A m M M1), Z X M1 0 0 43 [(0, .ref m), (1, .int (nI n4)), (2, .int (nI j))] [] := by
        intro k
        induction k using Nat.strongRecOn with
        | _ k ih =>
          intro j M1 hk hM1 fr1
          refine z_iload_n g dX11_pass_43 rfl ?_
          refine z_iload_n g dX11_pass_44 rfl ?_
          refine z_icmp_ge (tgt := 58) g dX11_pass_45 (by decide) (fun c_45 => ?_) (fun c_45 => ?_)
          · rw [nI_leI (by omega) (by omega)] at c_45
            have hj : j = n4 := by omega
            subst hj
            refine z_aload_n g dX11_pass_58 rfl ?_
            refine z_getI g fl_X11_238 hM1.k0 (by decide) rfl dX11_pass_59 ?_
            rw [hM1.sc (k := 1) (by decide) (by decide)]
            exact z_iret g hrt rfl (by decide) (by decide) dX11_pass_62 ⟨by rw [hc, opV_0, vPass, hn4c], by rw [hc, opS_0, sPass, hn4c]; exact hM1, fr1⟩
          have h45 : j < n4 := by rw [nI_leI (by omega) (by omega)] at c_45; omega
          refine z_aload_n g dX11_pass_48 rfl ?_
          refine z_callV g _ _ cv_X11_346 (n_pss _ M1 hM1 (INV_psN hV0 j (by omega)).1) hM1.k0 (by decide) rfl (by rw [hR]; decide) (by rw [hR]; decide) (by rw [hR]; decide) (Nat.le_of_ble_eq_true rfl) rfl dX11_pass_49 (fun _ _ h => False.elim h) (fun r_49 M_49 h_49 => ?_)
          obtain ⟨rfl, hM2, fr2⟩ := h_49
          refine z_iinc1 g dX11_pass_52 rfl (by rw [hN]; decide) ?_
          refine z_goto (tgt := 43) g dX11_pass_55 (by decide) ?_
          rw [nI_s]
          exact z_to (ih (k - 1) (by omega) (j + 1) M_49 (by omega) hM2 (fr1.tr fr2)) ⟨rfl, rfl, rfl, trivial⟩
      exact z_to (loop _ 0 M1 rfl hM1 fr1) ⟨rfl, rfl, rfl, trivial⟩
    · refine z_iconst (v := 2) g dX11_pass_28 (by decide) ?_
      refine z_goto (tgt := 33) g dX11_pass_29 (by decide) ?_
      have hc : cPass S dd = 2 := by simp [cPass, c_9, eq_false c_25]
      refine z_callV g _ _ cv_X11_234 (n_holds _ M hM fr0 2) hM.k0 (by decide) rfl (by rw [hR]; decide) (by rw [hR]; decide) (by rw [hR]; decide) (Nat.le_of_ble_eq_true rfl) rfl dX11_pass_33 (fun _ _ h => False.elim h) (fun r_33 M2 h_33 => ?_)
      obtain ⟨rfl, hM2, fr2⟩ := h_33
      refine z_if_ne (tgt := 41) g dX11_pass_36 (by decide) (fun c_36 => absurd c_36 (by decide)) (fun _ => ?_)
      refine z_iconst (v := 0) g dX11_pass_39 (by decide) ?_
      exact z_iret g hrt rfl (by decide) (by decide) dX11_pass_40 ⟨by rw [hc, opV_2], by rw [hc, opS_2]; exact hM2, fr2⟩
  · first | rw [b2i_0] at c_9 | rw [b2i_n0] at c_9 | skip
    refine z_iconst (v := 1) g dX11_pass_12 (by decide) ?_
    refine z_goto (tgt := 33) g dX11_pass_13 (by decide) ?_
    have hc : cPass S dd = 1 := by simp [cPass, c_9]
    refine z_callV g _ _ cv_X11_234 (n_holds _ M hM fr0 1) hM.k0 (by decide) rfl (by rw [hR]; decide) (by rw [hR]; decide) (by rw [hR]; decide) (Nat.le_of_ble_eq_true rfl) rfl dX11_pass_33 (fun _ _ h => False.elim h) (fun r_33 M3 h_33 => ?_)
    obtain ⟨rfl, hM3, fr3⟩ := h_33
    refine z_if_ne (tgt := 41) g dX11_pass_36 (by decide) (fun c_36 => absurd c_36 (by decide)) (fun _ => ?_)
    refine z_iconst (v := 0) g dX11_pass_39 (by decide) ?_
    exact z_iret g hrt rfl (by decide) (by decide) dX11_pass_40 ⟨by rw [hc, opV_1], by rw [hc, opS_1]; exact hM3, fr3⟩
