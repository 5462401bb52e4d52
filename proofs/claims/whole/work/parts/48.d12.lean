/-! ===== the model: words written and read back, loss (printed by gen/mod_d12.py) ===== -/
/-- the first j letters by g, the others as they were -/
def mpj (g : Nat → Nat) (u : List Nat) (j : Nat) : List Nat := (u.take j).map g ++ u.drop j
theorem mpj_len (g : Nat → Nat) (u : List Nat) (j : Nat) : (mpj g u j).length = u.length := by unfold mpj; simp; omega
theorem mpj_0 (g : Nat → Nat) (u : List Nat) : mpj g u 0 = u := by unfold mpj; simp
theorem mpj_all (g : Nat → Nat) (u : List Nat) {j : Nat} (h : u.length ≤ j) : mpj g u j = u.map g := by
  unfold mpj; rw [List.take_of_length_le h, List.drop_of_length_le h, List.append_nil]
theorem mpj_get (g : Nat → Nat) (u : List Nat) (j i : Nat) : (mpj g u j)[i]? = if i < j then (u[i]?).map g else u[i]? := by
  unfold mpj
  rcases Nat.lt_or_ge i (u.take j).length with z | z
  · have z2 := z
    rw [List.length_take] at z2
    rw [List.getElem?_append_left (by simpa using z), if_pos (by omega), List.getElem?_map, List.getElem?_take_of_lt (by omega)]
  · rw [List.getElem?_append_right (by simpa using z), List.length_map, List.getElem?_drop]
    rw [List.length_take] at z ⊢
    rcases Nat.lt_or_ge i j with z2 | z2
    · rw [if_pos z2, List.getElem?_eq_none (by omega), List.getElem?_eq_none (by omega)]; rfl
    · rw [if_neg (by omega)]
      rcases Nat.lt_or_ge j u.length with z3 | z3
      · rw [show j + (i - min j u.length) = i by omega]
      · rw [List.getElem?_eq_none (by omega), List.getElem?_eq_none (by omega)]
theorem Lt_mpj {A : Nat → Nat} {m : Nat} {S : Ms} {M : Mm} (hM : RM A m S M) {g : Nat → Nat} {u : List Nat} {j x : Nat} (h : Lt A m M (mpj g u j)) (hx : u[j]? = some x) : Lt A m (sI M (A 60) j (nI (g x))) (mpj g u (j + 1)) := by
  refine ⟨?_, fun i y hy => ?_⟩
  · rw [fI_sI, if_neg (fun z => hM.nem (k := 60) (by decide) z.1), mpj_len, h.1, mpj_len]
  · rw [mpj_get] at hy
    rw [fI_sI]
    by_cases hi : i = j
    · rw [if_pos ⟨rfl, hi⟩]
      rw [if_pos (by omega), hi, hx] at hy
      cases hy; rfl
    · rw [if_neg (fun z => hi z.2)]
      refine h.2 i y ?_
      rw [mpj_get]
      by_cases h2 : i < j
      · rw [if_pos h2]; rw [if_pos (by omega)] at hy; exact hy
      · rw [if_neg h2]; rw [if_neg (by omega)] at hy; exact hy
theorem tabLet {S : Ms} (hT : vTab S) {t x : Nat} (ht : t < 4) (h : 1 ≤ x ∧ x ≤ 26) : gA S 50 (27 * t + x) = nI (ca S 50 (27 * t + x)) ∧ 1 ≤ ca S 50 (27 * t + x) ∧ ca S 50 (27 * t + x) ≤ 26 := by
  have := hT t x ht (by omega)
  exact ⟨this.1.1, this.2 (by omega), this.1.2⟩
theorem lasB_le {g : Nat → Int32} {v : Int32} : ∀ n, lasB g v n ≤ n
  | 0 => Nat.le_refl _
  | n + 1 => by rw [lasB]; have := lasB_le (g := g) (v := v) n; split <;> omega
theorem lasB_pos {g : Nat → Int32} {v : Int32} : ∀ {n}, cntB g v n ≠ 0 → 0 < lasB g v n
  | 0, h => absurd rfl h
  | n + 1, h => by
    rw [cntB] at h
    rw [lasB]
    by_cases c : g (n + 1) = v
    · rw [if_pos c]; omega
    · rw [if_neg c] at h ⊢; exact lasB_pos h
theorem cntB_le {g : Nat → Int32} {v : Int32} : ∀ n, cntB g v n ≤ n
  | 0 => Nat.le_refl _
  | n + 1 => by rw [cntB]; have := cntB_le (g := g) (v := v) n; split <;> omega
theorem rbk_le (S : Ms) (t x : Nat) : rbk S t x ≤ 26 := by
  unfold rbk
  split
  · exact lasB_le 26
  · omega
def alp (S : Ms) (t : Nat) (u : List Nat) : Bool := u.all (fun x => decide (0 < rbk S t x))
theorem alp_t {S : Ms} {t : Nat} {u : List Nat} : alp S t u = true ↔ ∀ x ∈ u, 0 < rbk S t x := by
  unfold alp
  rw [List.all_eq_true]
  exact ⟨fun h x hx => of_decide_eq_true (h x hx), fun h x hx => decide_eq_true (h x hx)⟩
theorem alp_app {S : Ms} {t x : Nat} {u : List Nat} : alp S t (u ++ [x]) = (alp S t u && decide (0 < rbk S t x)) := by
  unfold alp
  rw [List.all_append, List.all_cons, List.all_nil, Bool.and_true]
theorem setB_nat {g : Nat → Int32} : ∀ {n : Nat}, (∀ l, 1 ≤ l → l ≤ n → ∃ x, x ≤ 26 ∧ g l = nI x) → ∃ s, s < 2 ^ 27 ∧ setB g n = nI s
  | 0, _ => ⟨0, by decide, rfl⟩
  | n + 1, h => by
    obtain ⟨s, h1, h2⟩ := setB_nat (g := g) (n := n) (fun l a b => h l a (by omega))
    obtain ⟨x, h3, h4⟩ := h (n + 1) (by omega) (Nat.le_refl _)
    refine ⟨s ||| 2 ^ x, Nat.or_lt_two_pow h1 (Nat.pow_lt_pow_right (by decide) (by omega)), ?_⟩
    rw [setB, h2, h4, sh1 x (by omega), nI_or]
set_option maxHeartbeats 4000000 in
set_option maxRecDepth 100000 in
theorem m_write (E : Ev) {A : Nat → Nat} {m : Nat} {S : Ms} (M : Mm) (hM : RM A m S M) (hV : INV S) (w : Int64) (t : Int32) : CT E yX11_write cX11_write 5 (some .long) 4 0 0 [.ref m, .long w, .int t] M (mAns A m (opS (cWrite S w t) S (sWrite S w t)) M (some (.long (opV (cWrite S w t) (vWrite S w t) 0)))) noX := by
  refine CT.of rfl (Nat.le_of_ble_eq_true rfl) (fun X g hrt hno hE hN hR hI => ?_)
  subst hE
  obtain ⟨v1, v2, v17, v24, v31, v36, v51, v58, v59⟩ := hV.1
  have hV0 := hV
  obtain ⟨-, vF, vN, vM, vL, vX, vP, vQ, vT, vR, vS, vO⟩ := hV
  have fr0 := FM.rf (A := A) (m := m) (M := M)
  refine z_aload_n g dX11_write_0 rfl ?_
  refine z_iload_n g dX11_write_1 rfl ?_
  refine z_callS g _ _ cs_X11_296 (n_isTb _ M t) rfl (by rw [hR]; decide) (by rw [hR]; decide) (by rw [hR]; decide) (Nat.le_of_ble_eq_true rfl) rfl dX11_write_2 (fun _ _ h => False.elim h) (fun r_2 M_2 h_2 => ?_)
  obtain ⟨rfl, rfl⟩ := h_2
  refine z_if_ne (tgt := 12) g dX11_write_5 (by decide) (fun c_5 => ?_) (fun c_5 => ?_)
  · first | rw [b2i_0] at c_5 | rw [b2i_n0] at c_5 | skip
    refine z_lload_n g dX11_write_12 rfl ?_
    refine z_bipush (v := 12) g dX11_write_13 (by decide) ?_
    refine z_callS g _ _ cs_X11_267 (n_isWd _ M w 12 (by decide)) rfl (by rw [hR]; decide) (by rw [hR]; decide) (by rw [hR]; decide) (Nat.le_of_ble_eq_true rfl) rfl dX11_write_15 (fun _ _ h => False.elim h) (fun r_15 M_15 h_15 => ?_)
    obtain ⟨rfl, rfl⟩ := h_15
    refine z_if_eq (tgt := 25) g dX11_write_18 (by decide) (fun c_18 => ?_) (fun c_18 => ?_)
    · first | rw [b2i_0] at c_18 | rw [b2i_n0] at c_18 | skip
      refine z_iconst (v := 2) g dX11_write_25 (by decide) ?_
      have hc : cWrite S w t = 2 := by simp [cWrite, c_5, c_18]
      refine z_callV g _ _ cv_X11_234 (n_holds _ M hM fr0 2) hM.k0 (by decide) rfl (by rw [hR]; decide) (by rw [hR]; decide) (by rw [hR]; decide) (Nat.le_of_ble_eq_true rfl) rfl dX11_write_26 (fun _ _ h => False.elim h) (fun r_26 M1 h_26 => ?_)
      obtain ⟨rfl, hM1, fr1⟩ := h_26
      refine z_if_ne (tgt := 34) g dX11_write_29 (by decide) (fun c_29 => absurd c_29 (by decide)) (fun _ => ?_)
      refine z_lconst (v := 0) g dX11_write_32 (by decide) ?_
      exact z_lret g hrt (by decide) (by decide) dX11_write_33 ⟨by rw [hc, opV_2], by rw [hc, opS_2]; exact hM1, fr1⟩
    · first | rw [b2i_0] at c_18 | rw [b2i_n0] at c_18 | skip
      refine z_iconst (v := 0) g dX11_write_21 (by decide) ?_
      refine z_goto (tgt := 26) g dX11_write_22 (by decide) ?_
      have hc : cWrite S w t = 0 := by simp [cWrite, c_5, c_18]
      refine z_callV g _ _ cv_X11_234 (n_holds _ M hM fr0 0) hM.k0 (by decide) rfl (by rw [hR]; decide) (by rw [hR]; decide) (by rw [hR]; decide) (Nat.le_of_ble_eq_true rfl) rfl dX11_write_26 (fun _ _ h => False.elim h) (fun r_26 M2 h_26 => ?_)
      obtain ⟨rfl, hM2, fr2⟩ := h_26
      refine z_if_ne (tgt := 34) g dX11_write_29 (by decide) (fun _ => ?_) (fun c_29 => absurd c_29 (by decide))
      obtain ⟨t4, ht4, rfl⟩ : ∃ t4, t4 < 4 ∧ t = nI t4 := by
        rcases in4 t with z | ⟨t4, q1, q2, -⟩
        · exact absurd z c_5
        · exact ⟨t4, q1, q2⟩
      have ht4c : (nI t4).toNatClampNeg = t4 := nI_clamp (by omega)
      obtain ⟨r, hr, -, rfl⟩ := isWd_of (n := 12) (w := w) (by rw [← Bool.not_eq_false]; exact c_18)
      have hwr := wr_lN hr
      have hu := hr.rev
      refine z_aload_n g dX11_write_34 rfl ?_
      refine z_lload_n g dX11_write_35 rfl ?_
      refine z_callV g _ _ cv_X11_211 (n_lays _ M2 hM2 r hr) hM2.k0 (by decide) rfl (by rw [hR]; decide) (by rw [hR]; decide) (by rw [hR]; decide) (Nat.le_of_ble_eq_true rfl) rfl dX11_write_36 (fun _ _ h => False.elim h) (fun r_36 M3 h_36 => ?_)
      obtain ⟨rfl, se_36, hLt⟩ := h_36
      have hM3 := hM2.SE se_36
      have fr3 := fr2.tr se_36.FM
      refine z_iconst (v := 0) g dX11_write_39 (by decide) ?_
      refine z_istore g dX11_write_40 (by rw [hN]; decide) ?_
      have loop : ∀ (k i_ : Nat) (M1 : Mm) (hk : k + i_ = r.reverse.length) (hM1 : RM A m (wi S 0 0) M1) (fr1 : FM A m M M1) (hL : Lt A m M1 (mpj (fun x => ca S 50 (27 * t4 + x)) r.reverse i_)), Z X M1 0 0 42 [(0, .ref m), (3, .int (nI t4)), (4, .int (nI i_))] [] := by
        intro k
        induction k using Nat.strongRecOn with
        | _ k ih =>
          intro i_ M1 hk hM1 fr1 hL
          have hu12 := hu.1
          refine z_iload g dX11_write_42 rfl ?_
          refine z_aload_n g dX11_write_44 rfl ?_
          refine z_getI g fl_X11_195 hM1.k0 (by decide) rfl dX11_write_45 ?_
          rw [hL.1, mpj_len]
          refine z_icmp_ge (tgt := 81) g dX11_write_48 (by decide) (fun c_e => ?_) (fun c_e => ?_)
          · rw [nI_leI (by omega) (by omega)] at c_e
            rw [mpj_all _ _ c_e] at hL
            have hg : LW 12 (r.reverse.map (fun x => ca S 50 (27 * t4 + x))) := ⟨by rw [List.length_map]; exact hu.1, fun y hy => by
              obtain ⟨x, hx, rfl⟩ := List.mem_map.mp hy
              exact (tabLet vT ht4 (hu.2 x hx)).2⟩
            refine z_aload_n g dX11_write_81 rfl ?_
            refine z_callV g _ _ cv_X11_226 (n_word _ M1 hM1 _ hg hL) hM1.k0 (by decide) rfl (by rw [hR]; decide) (by rw [hR]; decide) (by rw [hR]; decide) (Nat.le_of_ble_eq_true rfl) rfl dX11_write_82 (fun _ _ h => False.elim h) (fun r_82 M_82 h_82 => ?_)
            obtain ⟨rfl, rfl⟩ := h_82
            exact z_lret g hrt (by decide) (by decide) dX11_write_85 ⟨by rw [hc, opV_0, vWrite, ht4c, hwr, ← List.map_reverse, List.reverse_reverse], by rw [hc, opS_0]; exact hM1, fr1⟩
          have h9 : i_ < r.reverse.length := by rw [nI_leI (by omega) (by omega)] at c_e; omega
          obtain ⟨x, hx⟩ : ∃ x, r.reverse[i_]? = some x := ⟨r.reverse[i_], List.getElem?_eq_getElem h9⟩
          have hx2 := hu.2 x (List.mem_of_getElem? hx)
          have hxl := hL.2 i_ x (by rw [mpj_get, if_neg (by omega)]; exact hx)
          refine z_aload_n g dX11_write_51 rfl ?_
          refine z_getR g fl_X11_165 hM1.k0 (by decide) rfl (hM1.ref (k := 60) (by decide)) dX11_write_52 ?_
          refine z_iload g dX11_write_55 rfl ?_
          refine z_aload_n g dX11_write_57 rfl ?_
          refine z_getR g fl_X11_140 hM1.k0 (by decide) rfl (hM1.ref (k := 50) (by decide)) dX11_write_58 ?_
          refine z_bipush (v := 27) g dX11_write_61 (by decide) ?_
          refine z_iload_n g dX11_write_63 rfl ?_
          refine z_imul g dX11_write_64 ?_
          rw [m27]
          refine z_aload_n g dX11_write_65 rfl ?_
          refine z_getR g fl_X11_165 hM1.k0 (by decide) rfl (hM1.ref (k := 60) (by decide)) dX11_write_66 ?_
          refine z_iload g dX11_write_69 rfl ?_
          refine z_ialdk g (hM1.kA1 (k := 60) (by decide)) (by decide) (vp_in_nI (by rw [hM1.lnI (k := 60) (by decide)]; show _ < 24; omega) (by rw [hM1.lnI (k := 60) (by decide)]; decide)) dX11_write_71 ?_
          rw [nI_clamp (by omega)]
          rw [hxl]
          refine z_iadd g dX11_write_72 ?_
          rw [nI_add]
          obtain ⟨tl1, tl2, tl3⟩ := tabLet vT ht4 hx2
          refine z_ialdk g (hM1.kA1 (k := 50) (by decide)) (by decide) (vp_in_nI (by rw [hM1.lnI (k := 50) (by decide)]; show _ < 108; omega) (by rw [hM1.lnI (k := 50) (by decide)]; decide)) dX11_write_73 ?_
          rw [nI_clamp (by omega), show fI _ (A 50) = gA S 50 from hM1.row (k := 50) (by decide) (by decide)]
          rw [tl1]
          refine z_iastk g (hM1.kA1 (k := 60) (by decide)) (by decide) (vp_in_nI (by rw [hM1.lnI (k := 60) (by decide)]; show _ < 24; omega) (by rw [hM1.lnI (k := 60) (by decide)]; decide)) dX11_write_74 ?_
          rw [nI_clamp (by omega)]
          refine z_iinc1 g dX11_write_75 rfl (by rw [hN]; decide) ?_
          refine z_goto (tgt := 42) g dX11_write_78 (by decide) ?_
          rw [nI_s]
          exact z_to (ih (k - 1) (by omega) (i_ + 1) _ (by omega) (hM1.SE (SE.sI60 (Or.inl rfl))) (fr1.tr (SE.sI60 (A := A) (m := m) (Or.inl rfl)).FM) (Lt_mpj (g := (fun x => ca S 50 (27 * t4 + x))) hM1 hL hx)) ⟨rfl, rfl, rfl, trivial⟩
      exact z_to (loop _ 0 M3 rfl hM3 fr3 (by rw [mpj_0]; exact hLt)) ⟨rfl, rfl, rfl, trivial⟩
  · first | rw [b2i_0] at c_5 | rw [b2i_n0] at c_5 | skip
    refine z_iconst (v := 1) g dX11_write_8 (by decide) ?_
    refine z_goto (tgt := 26) g dX11_write_9 (by decide) ?_
    have hc : cWrite S w t = 1 := by simp [cWrite, c_5]
    refine z_callV g _ _ cv_X11_234 (n_holds _ M hM fr0 1) hM.k0 (by decide) rfl (by rw [hR]; decide) (by rw [hR]; decide) (by rw [hR]; decide) (Nat.le_of_ble_eq_true rfl) rfl dX11_write_26 (fun _ _ h => False.elim h) (fun r_26 M4 h_26 => ?_)
    obtain ⟨rfl, hM4, fr4⟩ := h_26
    refine z_if_ne (tgt := 34) g dX11_write_29 (by decide) (fun c_29 => absurd c_29 (by decide)) (fun _ => ?_)
    refine z_lconst (v := 0) g dX11_write_32 (by decide) ?_
    exact z_lret g hrt (by decide) (by decide) dX11_write_33 ⟨by rw [hc, opV_1], by rw [hc, opS_1]; exact hM4, fr4⟩
set_option maxHeartbeats 4000000 in
set_option maxRecDepth 100000 in
theorem n_rbk (E : Ev) {A : Nat → Nat} {m : Nat} {S : Ms} (M : Mm) (hM : RM A m S M) (t x : Nat) (ht : t < 4) : CT E yX11_readBack cX11_readBack 6 (some .int) 1 0 0 [.ref m, .int (nI t), .int (nI x)] M (ansI (nI (rbk S t x)) M) noX := by
  refine CT.of rfl (Nat.le_of_ble_eq_true rfl) (fun X g hrt hno hE hN hR hI => ?_)
  subst hE
  have loop : ∀ (k j : Nat) (hk : k + j = 26), Z X M 0 0 8 [(0, .ref m), (1, .int (nI t)), (2, .int (nI x)), (3, .int (nI (lasB (tabG S t) (nI x) j))), (4, .int (nI (cntB (tabG S t) (nI x) j))), (5, .int (nI (j + 1)))] [] := by
    intro k
    induction k using Nat.strongRecOn with
    | _ k ih =>
      intro j hk
      refine z_iload g dX11_readBack_8 rfl ?_
      refine z_bipush (v := 26) g dX11_readBack_10 (by decide) ?_
      refine z_icmp_gt (tgt := 43) g dX11_readBack_12 (by decide) (fun c_12 => ?_) (fun c_12 => ?_)
      · rw [show (26 : Int32) = nI 26 from rfl, nI_ltI (by omega) (by omega)] at c_12
        rw [show j = 26 by omega]
        have hcl := cntB_le (g := tabG S t) (v := nI x) 26
        refine z_iload g dX11_readBack_43 rfl ?_
        refine z_iconst (v := 1) g dX11_readBack_45 (by decide) ?_
        refine z_icmp_ne (tgt := 53) g dX11_readBack_46 (by decide) (fun c_46 => ?_) (fun c_46 => ?_)
        · refine z_iconst (v := 0) g dX11_readBack_53 (by decide) ?_
          exact z_iret g hrt rfl (by decide) (by decide) dX11_readBack_54 ⟨by rw [rbk, if_neg (fun z => c_46 (by rw [z]; rfl))]; rfl, rfl⟩
        · refine z_iload_n g dX11_readBack_49 rfl ?_
          refine z_goto (tgt := 54) g dX11_readBack_50 (by decide) ?_
          exact z_iret g hrt rfl (by decide) (by decide) dX11_readBack_54 ⟨by rw [rbk, if_pos ((nI_eq (a := cntB (tabG S t) (nI x) 26) (b := 1) (by omega) (by decide)).mp c_46)], rfl⟩
      have h12 : j < 26 := by rw [show (26 : Int32) = nI 26 from rfl, nI_ltI (by omega) (by omega)] at c_12; omega
      refine z_aload_n g dX11_readBack_15 rfl ?_
      refine z_getR g fl_X11_140 hM.k0 (by decide) rfl (hM.ref (k := 50) (by decide)) dX11_readBack_16 ?_
      refine z_bipush (v := 27) g dX11_readBack_19 (by decide) ?_
      refine z_iload_n g dX11_readBack_21 rfl ?_
      refine z_imul g dX11_readBack_22 ?_
      rw [m27]
      refine z_iload g dX11_readBack_23 rfl ?_
      refine z_iadd g dX11_readBack_25 ?_
      rw [nI_add]
      refine z_ialdk g (hM.kA1 (k := 50) (by decide)) (by decide) (vp_in_nI (by rw [hM.lnI (k := 50) (by decide)]; show _ < 108; omega) (by rw [hM.lnI (k := 50) (by decide)]; decide)) dX11_readBack_26 ?_
      rw [nI_clamp (by omega), hM.row (k := 50) (by decide) (by decide)]
      refine z_iload_n g dX11_readBack_27 rfl ?_
      refine z_icmp_ne (tgt := 37) g dX11_readBack_28 (by decide) (fun c_28 => ?_) (fun c_28 => ?_)
      · refine z_iinc1 g dX11_readBack_37 rfl (by rw [hN]; decide) ?_
        refine z_goto (tgt := 8) g dX11_readBack_40 (by decide) ?_
        simp only [nI_s]
        have hs := ih (k - 1) (by omega) (j + 1) (by omega)
        first
          | (rw [show cntB (tabG S t) (nI x) (j + 1) = cntB (tabG S t) (nI x) j + 1 from if_pos c_28, show lasB (tabG S t) (nI x) (j + 1) = j + 1 from if_pos c_28] at hs
             exact z_to hs ⟨rfl, rfl, rfl, rfl, rfl, rfl, trivial⟩)
          | (rw [show cntB (tabG S t) (nI x) (j + 1) = cntB (tabG S t) (nI x) j from if_neg c_28, show lasB (tabG S t) (nI x) (j + 1) = lasB (tabG S t) (nI x) j from if_neg c_28] at hs
             exact z_to hs ⟨rfl, rfl, rfl, rfl, rfl, rfl, trivial⟩)
      · refine z_iload g dX11_readBack_31 rfl ?_
        refine z_istore_n g dX11_readBack_33 (by rw [hN]; decide) ?_
        refine z_iinc1 g dX11_readBack_34 rfl (by rw [hN]; decide) ?_
        refine z_iinc1 g dX11_readBack_37 rfl (by rw [hN]; decide) ?_
        refine z_goto (tgt := 8) g dX11_readBack_40 (by decide) ?_
        simp only [nI_s]
        have hs := ih (k - 1) (by omega) (j + 1) (by omega)
        first
          | (rw [show cntB (tabG S t) (nI x) (j + 1) = cntB (tabG S t) (nI x) j + 1 from if_pos c_28, show lasB (tabG S t) (nI x) (j + 1) = j + 1 from if_pos c_28] at hs
             exact z_to hs ⟨rfl, rfl, rfl, rfl, rfl, rfl, trivial⟩)
          | (rw [show cntB (tabG S t) (nI x) (j + 1) = cntB (tabG S t) (nI x) j from if_neg c_28, show lasB (tabG S t) (nI x) (j + 1) = lasB (tabG S t) (nI x) j from if_neg c_28] at hs
             exact z_to hs ⟨rfl, rfl, rfl, rfl, rfl, rfl, trivial⟩)
  refine z_iconst (v := 0) g dX11_readBack_0 (by decide) ?_
  refine z_istore_n g dX11_readBack_1 (by rw [hN]; decide) ?_
  refine z_iconst (v := 0) g dX11_readBack_2 (by decide) ?_
  refine z_istore g dX11_readBack_3 (by rw [hN]; decide) ?_
  refine z_iconst (v := 1) g dX11_readBack_5 (by decide) ?_
  refine z_istore g dX11_readBack_6 (by rw [hN]; decide) ?_
  exact z_to (loop 26 0 rfl) ⟨rfl, rfl, rfl, rfl, rfl, rfl, trivial⟩
set_option maxHeartbeats 4000000 in
set_option maxRecDepth 100000 in
theorem m_loss (E : Ev) {A : Nat → Nat} {m : Nat} {S : Ms} (M : Mm) (hM : RM A m S M) (hV : INV S) (t : Int32) : CT E yX11_loss cX11_loss 4 (some .int) 4 0 0 [.ref m, .int t] M (mAns A m (opS (cLoss S t) S (sLoss S t)) M (some (.int (opV (cLoss S t) (vLoss S t) 0)))) noX := by
  refine CT.of rfl (Nat.le_of_ble_eq_true rfl) (fun X g hrt hno hE hN hR hI => ?_)
  subst hE
  obtain ⟨v1, v2, v17, v24, v31, v36, v51, v58, v59⟩ := hV.1
  have hV0 := hV
  obtain ⟨-, vF, vN, vM, vL, vX, vP, vQ, vT, vR, vS, vO⟩ := hV
  have fr0 := FM.rf (A := A) (m := m) (M := M)
  refine z_aload_n g dX11_loss_0 rfl ?_
  refine z_iload_n g dX11_loss_1 rfl ?_
  refine z_callS g _ _ cs_X11_296 (n_isTb _ M t) rfl (by rw [hR]; decide) (by rw [hR]; decide) (by rw [hR]; decide) (Nat.le_of_ble_eq_true rfl) rfl dX11_loss_2 (fun _ _ h => False.elim h) (fun r_2 M_2 h_2 => ?_)
  obtain ⟨rfl, rfl⟩ := h_2
  refine z_if_eq (tgt := 12) g dX11_loss_5 (by decide) (fun c_5 => ?_) (fun c_5 => ?_)
  · first | rw [b2i_0] at c_5 | rw [b2i_n0] at c_5 | skip
    refine z_iconst (v := 1) g dX11_loss_12 (by decide) ?_
    have hc : cLoss S t = 1 := by simp [cLoss, c_5]
    refine z_callV g _ _ cv_X11_234 (n_holds _ M hM fr0 1) hM.k0 (by decide) rfl (by rw [hR]; decide) (by rw [hR]; decide) (by rw [hR]; decide) (Nat.le_of_ble_eq_true rfl) rfl dX11_loss_13 (fun _ _ h => False.elim h) (fun r_13 M1 h_13 => ?_)
    obtain ⟨rfl, hM1, fr1⟩ := h_13
    refine z_if_ne (tgt := 21) g dX11_loss_16 (by decide) (fun c_16 => absurd c_16 (by decide)) (fun _ => ?_)
    refine z_iconst (v := 0) g dX11_loss_19 (by decide) ?_
    exact z_iret g hrt rfl (by decide) (by decide) dX11_loss_20 ⟨by rw [hc, opV_1], by rw [hc, opS_1]; exact hM1, fr1⟩
  · first | rw [b2i_0] at c_5 | rw [b2i_n0] at c_5 | skip
    refine z_iconst (v := 0) g dX11_loss_8 (by decide) ?_
    refine z_goto (tgt := 13) g dX11_loss_9 (by decide) ?_
    have hc : cLoss S t = 0 := by simp [cLoss, c_5]
    refine z_callV g _ _ cv_X11_234 (n_holds _ M hM fr0 0) hM.k0 (by decide) rfl (by rw [hR]; decide) (by rw [hR]; decide) (by rw [hR]; decide) (Nat.le_of_ble_eq_true rfl) rfl dX11_loss_13 (fun _ _ h => False.elim h) (fun r_13 M2 h_13 => ?_)
    obtain ⟨rfl, hM2, fr2⟩ := h_13
    refine z_if_ne (tgt := 21) g dX11_loss_16 (by decide) (fun _ => ?_) (fun c_16 => absurd c_16 (by decide))
    obtain ⟨t4, ht4, rfl⟩ : ∃ t4, t4 < 4 ∧ t = nI t4 := by
      rcases in4 t with z | ⟨t4, q1, q2, -⟩
      · exact absurd z c_5
      · exact ⟨t4, q1, q2⟩
    have ht4c : (nI t4).toNatClampNeg = t4 := nI_clamp (by omega)
    obtain ⟨s0, hs27, hs26⟩ := setB_nat (g := tabG S t4) (n := 26) (fun l a b => by have h9 := tabLet vT ht4 ⟨a, b⟩; exact ⟨_, h9.2.2, h9.1⟩)
    refine z_iconst (v := 0) g dX11_loss_21 (by decide) ?_
    refine z_istore_n g dX11_loss_22 (by rw [hN]; decide) ?_
    refine z_iconst (v := 1) g dX11_loss_23 (by decide) ?_
    refine z_istore_n g dX11_loss_24 (by rw [hN]; decide) ?_
    have loop : ∀ (k i_ : Nat) (hk : k + i_ = 26), Z X M2 0 0 25 [(0, .ref m), (1, .int (nI t4)), (2, .int (setB (tabG S t4) i_)), (3, .int (nI (i_ + 1)))] [] := by
      intro k
      induction k using Nat.strongRecOn with
      | _ k ih =>
        intro i_ hk
        refine z_iload_n g dX11_loss_25 rfl ?_
        refine z_bipush (v := 26) g dX11_loss_26 (by decide) ?_
        refine z_icmp_gt (tgt := 53) g dX11_loss_28 (by decide) (fun c_28 => ?_) (fun c_28 => ?_)
        · rw [show (26 : Int32) = nI 26 from rfl, nI_ltI (by omega) (by omega)] at c_28
          rw [show i_ = 26 by omega, hs26]
          refine z_bipush (v := 26) g dX11_loss_53 (by decide) ?_
          refine z_iload_n g dX11_loss_55 rfl ?_
          refine z_callS g _ _ cs_X11_285 (n_bits _ _ s0 (by omega)) rfl (by rw [hR]; decide) (by rw [hR]; decide) (by rw [hR]; decide) (Nat.le_of_ble_eq_true rfl) rfl dX11_loss_56 (fun _ _ h => False.elim h) (fun r_56 M_56 h_56 => ?_)
          obtain ⟨rfl, rfl⟩ := h_56
          refine z_isub g dX11_loss_59 ?_
          exact z_iret g hrt rfl (by decide) (by decide) dX11_loss_60 ⟨by rw [hc, opV_0, vLoss, ht4c, hs26, nI_clamp (by omega)], by rw [hc, opS_0]; exact hM2, fr2⟩
        have h28 : i_ < 26 := by rw [show (26 : Int32) = nI 26 from rfl, nI_ltI (by omega) (by omega)] at c_28; omega
        refine z_iload_n g dX11_loss_31 rfl ?_
        refine z_iconst (v := 1) g dX11_loss_32 (by decide) ?_
        refine z_aload_n g dX11_loss_33 rfl ?_
        refine z_getR g fl_X11_140 hM2.k0 (by decide) rfl (hM2.ref (k := 50) (by decide)) dX11_loss_34 ?_
        refine z_bipush (v := 27) g dX11_loss_37 (by decide) ?_
        refine z_iload_n g dX11_loss_39 rfl ?_
        refine z_imul g dX11_loss_40 ?_
        rw [m27]
        refine z_iload_n g dX11_loss_41 rfl ?_
        refine z_iadd g dX11_loss_42 ?_
        rw [nI_add]
        refine z_ialdk g (hM2.kA1 (k := 50) (by decide)) (by decide) (vp_in_nI (by rw [hM2.lnI (k := 50) (by decide)]; show _ < 108; omega) (by rw [hM2.lnI (k := 50) (by decide)]; decide)) dX11_loss_43 ?_
        rw [nI_clamp (by omega), show fI _ (A 50) = gA S 50 from hM2.row (k := 50) (by decide) (by decide)]
        refine z_ishl g dX11_loss_44 ?_
        refine z_ior g dX11_loss_45 ?_
        refine z_istore_n g dX11_loss_46 (by rw [hN]; decide) ?_
        refine z_iinc1 g dX11_loss_47 rfl (by rw [hN]; decide) ?_
        refine z_goto (tgt := 25) g dX11_loss_50 (by decide) ?_
        rw [nI_s]
        exact z_to (ih (k - 1) (by omega) (i_ + 1) (by omega)) ⟨rfl, rfl, rfl, rfl, trivial⟩
    exact z_to (loop 26 0 rfl) ⟨rfl, rfl, rfl, rfl, trivial⟩
set_option maxHeartbeats 4000000 in
set_option maxRecDepth 100000 in
theorem m_back (E : Ev) {A : Nat → Nat} {m : Nat} {S : Ms} (M : Mm) (hM : RM A m S M) (hV : INV S) (w : Int64) (t : Int32) : CT E yX11_back cX11_back 6 (some .long) 4 0 0 [.ref m, .long w, .int t] M (mAns A m (opS (cWrite S w t) S (sWrite S w t)) M (some (.long (opV (cWrite S w t) (vBack S w t) 0)))) noX := by
  refine CT.of rfl (Nat.le_of_ble_eq_true rfl) (fun X g hrt hno hE hN hR hI => ?_)
  subst hE
  obtain ⟨v1, v2, v17, v24, v31, v36, v51, v58, v59⟩ := hV.1
  have hV0 := hV
  obtain ⟨-, vF, vN, vM, vL, vX, vP, vQ, vT, vR, vS, vO⟩ := hV
  have fr0 := FM.rf (A := A) (m := m) (M := M)
  refine z_aload_n g dX11_back_0 rfl ?_
  refine z_iload_n g dX11_back_1 rfl ?_
  refine z_callS g _ _ cs_X11_296 (n_isTb _ M t) rfl (by rw [hR]; decide) (by rw [hR]; decide) (by rw [hR]; decide) (Nat.le_of_ble_eq_true rfl) rfl dX11_back_2 (fun _ _ h => False.elim h) (fun r_2 M_2 h_2 => ?_)
  obtain ⟨rfl, rfl⟩ := h_2
  refine z_if_ne (tgt := 12) g dX11_back_5 (by decide) (fun c_5 => ?_) (fun c_5 => ?_)
  · first | rw [b2i_0] at c_5 | rw [b2i_n0] at c_5 | skip
    refine z_lload_n g dX11_back_12 rfl ?_
    refine z_bipush (v := 12) g dX11_back_13 (by decide) ?_
    refine z_callS g _ _ cs_X11_267 (n_isWd _ M w 12 (by decide)) rfl (by rw [hR]; decide) (by rw [hR]; decide) (by rw [hR]; decide) (Nat.le_of_ble_eq_true rfl) rfl dX11_back_15 (fun _ _ h => False.elim h) (fun r_15 M_15 h_15 => ?_)
    obtain ⟨rfl, rfl⟩ := h_15
    refine z_if_eq (tgt := 25) g dX11_back_18 (by decide) (fun c_18 => ?_) (fun c_18 => ?_)
    · first | rw [b2i_0] at c_18 | rw [b2i_n0] at c_18 | skip
      refine z_iconst (v := 2) g dX11_back_25 (by decide) ?_
      have hc : cWrite S w t = 2 := by simp [cWrite, c_5, c_18]
      refine z_callV g _ _ cv_X11_234 (n_holds _ M hM fr0 2) hM.k0 (by decide) rfl (by rw [hR]; decide) (by rw [hR]; decide) (by rw [hR]; decide) (Nat.le_of_ble_eq_true rfl) rfl dX11_back_26 (fun _ _ h => False.elim h) (fun r_26 M1 h_26 => ?_)
      obtain ⟨rfl, hM1, fr1⟩ := h_26
      refine z_if_ne (tgt := 34) g dX11_back_29 (by decide) (fun c_29 => absurd c_29 (by decide)) (fun _ => ?_)
      refine z_lconst (v := 0) g dX11_back_32 (by decide) ?_
      exact z_lret g hrt (by decide) (by decide) dX11_back_33 ⟨by rw [hc, opV_2], by rw [hc, opS_2]; exact hM1, fr1⟩
    · first | rw [b2i_0] at c_18 | rw [b2i_n0] at c_18 | skip
      refine z_iconst (v := 0) g dX11_back_21 (by decide) ?_
      refine z_goto (tgt := 26) g dX11_back_22 (by decide) ?_
      have hc : cWrite S w t = 0 := by simp [cWrite, c_5, c_18]
      refine z_callV g _ _ cv_X11_234 (n_holds _ M hM fr0 0) hM.k0 (by decide) rfl (by rw [hR]; decide) (by rw [hR]; decide) (by rw [hR]; decide) (Nat.le_of_ble_eq_true rfl) rfl dX11_back_26 (fun _ _ h => False.elim h) (fun r_26 M2 h_26 => ?_)
      obtain ⟨rfl, hM2, fr2⟩ := h_26
      refine z_if_ne (tgt := 34) g dX11_back_29 (by decide) (fun _ => ?_) (fun c_29 => absurd c_29 (by decide))
      obtain ⟨t4, ht4, rfl⟩ : ∃ t4, t4 < 4 ∧ t = nI t4 := by
        rcases in4 t with z | ⟨t4, q1, q2, -⟩
        · exact absurd z c_5
        · exact ⟨t4, q1, q2⟩
      have ht4c : (nI t4).toNatClampNeg = t4 := nI_clamp (by omega)
      obtain ⟨r, hr, -, rfl⟩ := isWd_of (n := 12) (w := w) (by rw [← Bool.not_eq_false]; exact c_18)
      have hwr := wr_lN hr
      have hu := hr.rev
      refine z_aload_n g dX11_back_34 rfl ?_
      refine z_lload_n g dX11_back_35 rfl ?_
      refine z_callV g _ _ cv_X11_211 (n_lays _ M2 hM2 r hr) hM2.k0 (by decide) rfl (by rw [hR]; decide) (by rw [hR]; decide) (by rw [hR]; decide) (Nat.le_of_ble_eq_true rfl) rfl dX11_back_36 (fun _ _ h => False.elim h) (fun r_36 M3 h_36 => ?_)
      obtain ⟨rfl, se_36, hLt⟩ := h_36
      have hM3 := hM2.SE se_36
      have fr3 := fr2.tr se_36.FM
      refine z_iconst (v := 1) g dX11_back_39 (by decide) ?_
      refine z_istore g dX11_back_40 (by rw [hN]; decide) ?_
      refine z_iconst (v := 0) g dX11_back_42 (by decide) ?_
      refine z_istore g dX11_back_43 (by rw [hN]; decide) ?_
      have loop : ∀ (k i_ : Nat) (M1 : Mm) (b : Bool) (hk : k + i_ = r.reverse.length) (hM1 : RM A m (wi S 0 0) M1) (fr1 : FM A m M M1) (hL : Lt A m M1 (mpj (rbk S t4) r.reverse i_)) (hb : alp S t4 (r.reverse.take i_) = b), Z X M1 0 0 45 [(0, .ref m), (3, .int (nI t4)), (4, .int (b2i b)), (5, .int (nI i_))] [] := by
        intro k
        induction k using Nat.strongRecOn with
        | _ k ih =>
          intro i_ M1 b hk hM1 fr1 hL hb
          have hu12 := hu.1
          cases b
          · show Z X M1 0 0 45 [(0, .ref m), (3, .int (nI t4)), (4, .int 0), (5, .int (nI i_))] []
            refine z_iload g dX11_back_45 rfl ?_
            refine z_aload_n g dX11_back_47 rfl ?_
            refine z_getI g fl_X11_195 hM1.k0 (by decide) rfl dX11_back_48 ?_
            rw [hL.1, mpj_len]
            refine z_icmp_ge (tgt := 101) g dX11_back_51 (by decide) (fun c_e => ?_) (fun c_e => ?_)
            · rw [nI_leI (by omega) (by omega)] at c_e
              rw [mpj_all _ _ c_e] at hL
              have hall : ¬ ∀ x ∈ r, 0 < rbk S t4 x := fun h8 => by
                have h9 := alp_t.mpr (fun x hx => h8 x (List.mem_reverse.mp (List.mem_of_mem_take (l := r.reverse) (i := i_) hx)))
                rw [hb] at h9; cases h9
              refine z_iload g dX11_back_101 rfl ?_
              refine z_if_eq (tgt := 113) g dX11_back_103 (by decide) (fun _ => ?_) (fun c => absurd c (by decide))
              refine z_ldc2 g dX11_back_113 kc_X11_303 ?_
              exact z_lret g hrt (by decide) (by decide) dX11_back_116 ⟨by rw [hc, opV_0, vBack, ht4c, hwr, if_neg hall], by rw [hc, opS_0]; exact hM1, fr1⟩
            have h9 : i_ < r.reverse.length := by rw [nI_leI (by omega) (by omega)] at c_e; omega
            obtain ⟨x, hx⟩ : ∃ x, r.reverse[i_]? = some x := ⟨r.reverse[i_], List.getElem?_eq_getElem h9⟩
            have hx2 := hu.2 x (List.mem_of_getElem? hx)
            have hxl := hL.2 i_ x (by rw [mpj_get, if_neg (by omega)]; exact hx)
            refine z_aload_n g dX11_back_54 rfl ?_
            refine z_getR g fl_X11_165 hM1.k0 (by decide) rfl (hM1.ref (k := 60) (by decide)) dX11_back_55 ?_
            refine z_iload g dX11_back_58 rfl ?_
            refine z_aload_n g dX11_back_60 rfl ?_
            refine z_iload_n g dX11_back_61 rfl ?_
            refine z_aload_n g dX11_back_62 rfl ?_
            refine z_getR g fl_X11_165 hM1.k0 (by decide) rfl (hM1.ref (k := 60) (by decide)) dX11_back_63 ?_
            refine z_iload g dX11_back_66 rfl ?_
            refine z_ialdk g (hM1.kA1 (k := 60) (by decide)) (by decide) (vp_in_nI (by rw [hM1.lnI (k := 60) (by decide)]; show _ < 24; omega) (by rw [hM1.lnI (k := 60) (by decide)]; decide)) dX11_back_68 ?_
            rw [nI_clamp (by omega)]
            rw [hxl]
            refine z_callV g _ _ cv_X11_299 (n_rbk _ M1 hM1 t4 x ht4) hM1.k0 (by decide) rfl (by rw [hR]; decide) (by rw [hR]; decide) (by rw [hR]; decide) (Nat.le_of_ble_eq_true rfl) rfl dX11_back_69 (fun _ _ h => False.elim h) (fun r_69 M_69 h_69 => ?_)
            obtain ⟨rfl, rfl⟩ := h_69
            rw [show rbk (wi S 0 0) t4 x = rbk S t4 x from rfl]
            refine z_iastk g (hM1.kA1 (k := 60) (by decide)) (by decide) (vp_in_nI (by rw [hM1.lnI (k := 60) (by decide)]; show _ < 24; omega) (by rw [hM1.lnI (k := 60) (by decide)]; decide)) dX11_back_72 ?_
            rw [nI_clamp (by omega)]
            have hM2 : RM A m (wi S 0 0) (sI M1 (A 60) i_ (nI (rbk S t4 x))) := hM1.SE (SE.sI60 (Or.inl rfl))
            refine z_iload g dX11_back_73 rfl ?_
            refine z_if_eq (tgt := 92) g dX11_back_75 (by decide) (fun _ => ?_) (fun c_75 => absurd c_75 (by decide))
            refine z_iconst (v := 0) g dX11_back_92 (by decide) ?_
            refine z_istore g dX11_back_93 (by rw [hN]; decide) ?_
            refine z_iinc1 g dX11_back_95 rfl (by rw [hN]; decide) ?_
            refine z_goto (tgt := 45) g dX11_back_98 (by decide) ?_
            have hts : r.reverse.take (i_ + 1) = r.reverse.take i_ ++ [x] := by rw [List.take_succ, hx]; rfl
            have hrb := rbk_le S t4 x
            have hb2 : alp S t4 (r.reverse.take (i_ + 1)) = false := by rw [hts, alp_app, hb]; rfl
            rw [nI_s]
            exact z_to (ih (k - 1) (by omega) (i_ + 1) _ false (by omega) hM2 (fr1.tr (SE.sI60 (A := A) (m := m) (Or.inl rfl)).FM) (Lt_mpj (g := rbk S t4) hM1 hL hx) hb2) ⟨rfl, rfl, rfl, rfl, trivial⟩
          · show Z X M1 0 0 45 [(0, .ref m), (3, .int (nI t4)), (4, .int 1), (5, .int (nI i_))] []
            refine z_iload g dX11_back_45 rfl ?_
            refine z_aload_n g dX11_back_47 rfl ?_
            refine z_getI g fl_X11_195 hM1.k0 (by decide) rfl dX11_back_48 ?_
            rw [hL.1, mpj_len]
            refine z_icmp_ge (tgt := 101) g dX11_back_51 (by decide) (fun c_e => ?_) (fun c_e => ?_)
            · rw [nI_leI (by omega) (by omega)] at c_e
              rw [mpj_all _ _ c_e] at hL
              have hall : ∀ x ∈ r, 0 < rbk S t4 x := fun x hx => by
                have h9 := alp_t.mp hb
                rw [List.take_of_length_le c_e] at h9
                exact h9 x (List.mem_reverse.mpr hx)
              have hg : LW 12 (r.reverse.map (rbk S t4)) := ⟨by rw [List.length_map]; exact hu.1, fun y hy => by
                obtain ⟨x, hx, rfl⟩ := List.mem_map.mp hy
                exact ⟨hall x (List.mem_reverse.mp hx), rbk_le S t4 x⟩⟩
              refine z_iload g dX11_back_101 rfl ?_
              refine z_if_eq (tgt := 113) g dX11_back_103 (by decide) (fun c => absurd c (by decide)) (fun _ => ?_)
              refine z_aload_n g dX11_back_106 rfl ?_
              refine z_callV g _ _ cv_X11_226 (n_word _ M1 hM1 _ hg hL) hM1.k0 (by decide) rfl (by rw [hR]; decide) (by rw [hR]; decide) (by rw [hR]; decide) (Nat.le_of_ble_eq_true rfl) rfl dX11_back_107 (fun _ _ h => False.elim h) (fun r_107 M_107 h_107 => ?_)
              obtain ⟨rfl, rfl⟩ := h_107
              refine z_goto (tgt := 116) g dX11_back_110 (by decide) ?_
              exact z_lret g hrt (by decide) (by decide) dX11_back_116 ⟨by rw [hc, opV_0, vBack, ht4c, hwr, if_pos hall, ← List.map_reverse, List.reverse_reverse], by rw [hc, opS_0]; exact hM1, fr1⟩
            have h9 : i_ < r.reverse.length := by rw [nI_leI (by omega) (by omega)] at c_e; omega
            obtain ⟨x, hx⟩ : ∃ x, r.reverse[i_]? = some x := ⟨r.reverse[i_], List.getElem?_eq_getElem h9⟩
            have hx2 := hu.2 x (List.mem_of_getElem? hx)
            have hxl := hL.2 i_ x (by rw [mpj_get, if_neg (by omega)]; exact hx)
            refine z_aload_n g dX11_back_54 rfl ?_
            refine z_getR g fl_X11_165 hM1.k0 (by decide) rfl (hM1.ref (k := 60) (by decide)) dX11_back_55 ?_
            refine z_iload g dX11_back_58 rfl ?_
            refine z_aload_n g dX11_back_60 rfl ?_
            refine z_iload_n g dX11_back_61 rfl ?_
            refine z_aload_n g dX11_back_62 rfl ?_
            refine z_getR g fl_X11_165 hM1.k0 (by decide) rfl (hM1.ref (k := 60) (by decide)) dX11_back_63 ?_
            refine z_iload g dX11_back_66 rfl ?_
            refine z_ialdk g (hM1.kA1 (k := 60) (by decide)) (by decide) (vp_in_nI (by rw [hM1.lnI (k := 60) (by decide)]; show _ < 24; omega) (by rw [hM1.lnI (k := 60) (by decide)]; decide)) dX11_back_68 ?_
            rw [nI_clamp (by omega)]
            rw [hxl]
            refine z_callV g _ _ cv_X11_299 (n_rbk _ M1 hM1 t4 x ht4) hM1.k0 (by decide) rfl (by rw [hR]; decide) (by rw [hR]; decide) (by rw [hR]; decide) (Nat.le_of_ble_eq_true rfl) rfl dX11_back_69 (fun _ _ h => False.elim h) (fun r_69 M_69 h_69 => ?_)
            obtain ⟨rfl, rfl⟩ := h_69
            rw [show rbk (wi S 0 0) t4 x = rbk S t4 x from rfl]
            refine z_iastk g (hM1.kA1 (k := 60) (by decide)) (by decide) (vp_in_nI (by rw [hM1.lnI (k := 60) (by decide)]; show _ < 24; omega) (by rw [hM1.lnI (k := 60) (by decide)]; decide)) dX11_back_72 ?_
            rw [nI_clamp (by omega)]
            have hM2 : RM A m (wi S 0 0) (sI M1 (A 60) i_ (nI (rbk S t4 x))) := hM1.SE (SE.sI60 (Or.inl rfl))
            refine z_iload g dX11_back_73 rfl ?_
            refine z_if_eq (tgt := 92) g dX11_back_75 (by decide) (fun c_75 => absurd c_75 (by decide)) (fun _ => ?_)
            refine z_aload_n g dX11_back_78 rfl ?_
            refine z_getR g fl_X11_165 hM2.k0 (by decide) rfl (hM2.ref (k := 60) (by decide)) dX11_back_79 ?_
            refine z_iload g dX11_back_82 rfl ?_
            refine z_ialdk g (hM2.kA1 (k := 60) (by decide)) (by decide) (vp_in_nI (by rw [hM2.lnI (k := 60) (by decide)]; show _ < 24; omega) (by rw [hM2.lnI (k := 60) (by decide)]; decide)) dX11_back_84 ?_
            rw [nI_clamp (by omega)]
            rw [show fI (sI M1 (A 60) i_ (nI (rbk S t4 x))) (A 60) i_ = nI (rbk S t4 x) by rw [fI_sI, if_pos ⟨rfl, rfl⟩]]
            refine z_if_le (tgt := 92) g dX11_back_85 (by decide) (fun c_85 => ?_) (fun c_85 => ?_)
            · refine z_iconst (v := 0) g dX11_back_92 (by decide) ?_
              refine z_istore g dX11_back_93 (by rw [hN]; decide) ?_
              refine z_iinc1 g dX11_back_95 rfl (by rw [hN]; decide) ?_
              refine z_goto (tgt := 45) g dX11_back_98 (by decide) ?_
              have hts : r.reverse.take (i_ + 1) = r.reverse.take i_ ++ [x] := by rw [List.take_succ, hx]; rfl
              have hrb := rbk_le S t4 x
              have hp : rbk S t4 x = 0 := by rw [show (0 : Int32) = nI 0 from rfl, nI_leI (by omega) (by omega)] at c_85; omega
              have hb2 : alp S t4 (r.reverse.take (i_ + 1)) = false := by rw [hts, alp_app, hb, decide_eq_false (by omega)]; rfl
              rw [nI_s]
              exact z_to (ih (k - 1) (by omega) (i_ + 1) _ false (by omega) hM2 (fr1.tr (SE.sI60 (A := A) (m := m) (Or.inl rfl)).FM) (Lt_mpj (g := rbk S t4) hM1 hL hx) hb2) ⟨rfl, rfl, rfl, rfl, trivial⟩
            · refine z_iconst (v := 1) g dX11_back_88 (by decide) ?_
              refine z_goto (tgt := 93) g dX11_back_89 (by decide) ?_
              refine z_istore g dX11_back_93 (by rw [hN]; decide) ?_
              refine z_iinc1 g dX11_back_95 rfl (by rw [hN]; decide) ?_
              refine z_goto (tgt := 45) g dX11_back_98 (by decide) ?_
              have hts : r.reverse.take (i_ + 1) = r.reverse.take i_ ++ [x] := by rw [List.take_succ, hx]; rfl
              have hrb := rbk_le S t4 x
              have hp : 0 < rbk S t4 x := by rw [show (0 : Int32) = nI 0 from rfl, nI_leI (by omega) (by omega)] at c_85; omega
              have hb2 : alp S t4 (r.reverse.take (i_ + 1)) = true := by rw [hts, alp_app, hb, decide_eq_true hp]; rfl
              rw [nI_s]
              exact z_to (ih (k - 1) (by omega) (i_ + 1) _ true (by omega) hM2 (fr1.tr (SE.sI60 (A := A) (m := m) (Or.inl rfl)).FM) (Lt_mpj (g := rbk S t4) hM1 hL hx) hb2) ⟨rfl, rfl, rfl, rfl, trivial⟩
      exact z_to (loop _ 0 M3 true rfl hM3 fr3 (by rw [mpj_0]; exact hLt) rfl) ⟨rfl, rfl, rfl, rfl, trivial⟩
  · first | rw [b2i_0] at c_5 | rw [b2i_n0] at c_5 | skip
    refine z_iconst (v := 1) g dX11_back_8 (by decide) ?_
    refine z_goto (tgt := 26) g dX11_back_9 (by decide) ?_
    have hc : cWrite S w t = 1 := by simp [cWrite, c_5]
    refine z_callV g _ _ cv_X11_234 (n_holds _ M hM fr0 1) hM.k0 (by decide) rfl (by rw [hR]; decide) (by rw [hR]; decide) (by rw [hR]; decide) (Nat.le_of_ble_eq_true rfl) rfl dX11_back_26 (fun _ _ h => False.elim h) (fun r_26 M4 h_26 => ?_)
    obtain ⟨rfl, hM4, fr4⟩ := h_26
    refine z_if_ne (tgt := 34) g dX11_back_29 (by decide) (fun c_29 => absurd c_29 (by decide)) (fun _ => ?_)
    refine z_lconst (v := 0) g dX11_back_32 (by decide) ?_
    exact z_lret g hrt (by decide) (by decide) dX11_back_33 ⟨by rw [hc, opV_1], by rw [hc, opS_1]; exact hM4, fr4⟩
