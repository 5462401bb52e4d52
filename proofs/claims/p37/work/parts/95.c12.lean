theorem RX.row {B : Nat → Nat → Nat} {x : Nat} {S : Ms} {M : Mm} (h : RX B x S M) (hV : INV S) {b c : Nat} (hk : kd M b = c) (hc : c = 172 ∨ c = 173 ∨ c = 174 ∨ c = 176 ∨ c = 177) (G : Nat → Int32) : RX B x S (rowI M b G) := by
  have hcm : c % 1000 = c := by omega
  have g : agr (fun c1 _ => c1 = c) M (rowI M b G) := agr.rowI (fun k => by rw [hk]; exact hcm)
  obtain ⟨g1, g2, g3, g4, g5, g6, g7, g8, g9, g10, g11, g12, g13, g14, g15, g16, g17⟩ := h.fr hV g
  refine ⟨g1 ?_, g2 ?_, g3 ?_, g4 ?_, g5 ?_, g6 ?_, g7 ?_, g8 ?_, g9 ?_, g10 ?_, g11 ?_, g12 ?_, g13 ?_, g14 ?_, g15 ?_, g16 ?_, g17 ?_⟩
  all_goals
    intro c1 k z
    dsimp only
    simp only [uX, uS, uF, uD, uG, uH, uPl, uW, uM, uE, uLw, uQ, uT, uR, uC, uO, uSg] at z
    omega
theorem agr_row {M : Mm} {b c : Nat} (hk : kd M b = c) (hc : c = 172 ∨ c = 173 ∨ c = 174 ∨ c = 176 ∨ c = 177) (G : Nat → Int32) : agr TC M (rowI M b G) :=
  agr.rowI (fun k => by rw [hk]; unfold TC; omega)
def AS (B : Nat → Nat → Nat) (x : Nat) (S : Ms) (M : Mm) (i k : Nat) (M1 : Mm) : Prop := RX B x S M1 ∧ eq16 (fI M1 (B 173 0), fI M1 (B 174 0)) (asA S i) ∧ (∀ b, b < k → fI M1 (B 172 0) b = csv S i b) ∧ agr TC M M1
theorem qX.ka {B : Nat → Nat → Nat} {x : Nat} {M : Mm} (h : qX B x M) : kd M (B 1 0) = 1 ∧ kd M (B 172 0) = 172 ∧ kd M (B 173 0) = 173 ∧ kd M (B 174 0) = 174 ∧ kd M (B 177 0) = 177 :=
  ⟨(h.2.1 6 (by decide)).2, (h.2.2.1 0 (by decide)).2, (h.2.2.1 1 (by decide)).2, (h.2.2.1 2 (by decide)).2, (h.2.1 9 (by decide)).2⟩
theorem AS.cost {B : Nat → Nat → Nat} {x : Nat} {S : Ms} {M M1 : Mm} {i k : Nat} (h : AS B x S M i k M1) (hV : INV S) {v : Int32} (hv : v = csv S i k) (G : Nat → Int32) : AS B x S M i (k + 1) (sI (rowI M1 (B 177 0) G) (B 172 0) k v) := by
  obtain ⟨h1, h2, h3, h4⟩ := h
  obtain ⟨k1, k172, k173, k174, k177⟩ := h1.1.ka
  have n1 : B 173 0 ≠ B 177 0 := fun z => by rw [z, k177] at k173; cases k173
  have n2 : B 174 0 ≠ B 177 0 := fun z => by rw [z, k177] at k174; cases k174
  have n3 : B 173 0 ≠ B 172 0 := fun z => by rw [z, k172] at k173; cases k173
  have n4 : B 174 0 ≠ B 172 0 := fun z => by rw [z, k172] at k174; cases k174
  have n5 : B 172 0 ≠ B 177 0 := fun z => by rw [z, k177] at k172; cases k172
  rw [sI_row]
  have hk2 : kd (rowI M1 (B 177 0) G) (B 172 0) = 172 := k172
  refine ⟨(h1.row hV k177 (by omega) G).row hV hk2 (by omega) _, ?_, fun b hb => ?_, (h4.tr (agr_row k177 (by omega) G)).tr (agr_row hk2 (by omega) _)⟩
  · rw [rowI_n _ _ n3, rowI_n _ _ n1, rowI_n _ _ n4, rowI_n _ _ n2]; exact h2
  · rw [rowI_s]
    unfold pu
    by_cases e : b = k
    · rw [if_pos e, e]; exact hv
    · rw [if_neg e, rowI_n _ _ n5]; exact h3 b (by omega)
theorem AS.none {B : Nat → Nat → Nat} {x : Nat} {S : Ms} {M M1 : Mm} {i k : Nat} (h : AS B x S M i k M1) (hV : INV S) {v : Int32} (hv : v = csv S i k) : AS B x S M i (k + 1) (sI M1 (B 172 0) k v) := by
  have h9 := h.cost hV hv (fI M1 (B 177 0))
  rw [rowI_self] at h9; exact h9
theorem AS.next {B : Nat → Nat → Nat} {x : Nat} {S : Ms} {M M1 : Mm} {i : Nat} (h : AS B x S M i 4 M1) (hV : INV S) (hi : i < 24) : AS B x S M (i + 1) 0 (W2 M1 (B 173 0) (B 174 0) (afO (fI M1 (B 172 0)) (fI M1 (B 173 0), fI M1 (B 174 0)) 16)) := by
  obtain ⟨h1, h2, h3, h4⟩ := h
  obtain ⟨k1, k172, k173, k174, k177⟩ := h1.1.ka
  have n : B 173 0 ≠ B 174 0 := fun z => by rw [z, k174] at k173; cases k173
  have hk2 : ∀ G, kd (rowI M1 (B 173 0) G) (B 174 0) = 174 := fun G => k174
  refine ⟨(h1.row hV k173 (by omega) _).row hV (hk2 _) (by omega) _, ?_, fun b hb => absurd hb (Nat.not_lt_zero b), (h4.tr (agr_row k173 (by omega) _)).tr (agr_row (hk2 _) (by omega) _)⟩
  rw [W2_w n, W2_l]
  exact afO_asF h3 h2 (fun s hs => asA_nn S (by omega) hs)
set_option maxHeartbeats 4000000 in
set_option maxRecDepth 100000 in
theorem k_asgAll (E : Ev) {B : Nat → Nat → Nat} {x : Nat} {S : Ms} (M : Mm) (hX : RX B x S M) (hV : INV S) : CT E yX10_assignAll cX10_assignAll 3 none 8 0 0 [.ref x] M (fun r M' => r = none ∧ agr TC M M' ∧ RX B x S M' ∧ eq16 (fI M' (B 173 0), fI M' (B 174 0)) (asA S (cn S 2))) noX := by
  refine CT.of rfl (Nat.le_of_ble_eq_true rfl) (fun X g hrt hno hE hN hR hI => ?_)
  subst hE
  have loop : ∀ (k i : Nat) (M1 : Mm) (hk : k + i = cn S 2) (hA : AS B x S M i 0 M1), Z X M1 0 0 9 [(0, .ref x), (1, .int (nI i))] [] := by
    intro k
    induction k using Nat.strongRecOn with
    | _ k ih =>
      intro i M1 hk hA
      obtain ⟨hXc, hEq, hCs, hTc⟩ := id hA
      obtain ⟨qx, qs, qf, qd, qg, qh, qp, qw, qm, qe, ql, qq, qt, qr, qc, qo, qi⟩ := id hXc
      have k11 : kd M1 x % 1000 = 11 := by rw [qx.1]
      obtain ⟨k1, k172, k173, k174, k177⟩ := qx.ka
      have r0 : fR M1 x 0 = some (B 400 0) := (qx.2.1 0 (by decide)).1
      have r4 : fR M1 x 4 = some (B 404 0) := (qx.2.1 4 (by decide)).1
      have r6 : fR M1 x 6 = some (B 1 0) := (qx.2.1 6 (by decide)).1
      have a0 : fR M1 (B 1 0) 0 = some (B 172 0) := (qx.2.2.1 0 (by decide)).1
      have a1 : fR M1 (B 1 0) 1 = some (B 173 0) := (qx.2.2.1 1 (by decide)).1
      have a2 : fR M1 (B 1 0) 2 = some (B 174 0) := (qx.2.2.1 2 (by decide)).1
      have e172 : ln M1 (B 172 0) = 4 := qx.2.2.2.2.2.2.1
      have e173 : ln M1 (B 173 0) = 16 := qx.2.2.2.2.2.2.2.1
      have e174 : ln M1 (B 174 0) = 16 := qx.2.2.2.2.2.2.2.2
      have kl0 : kd M1 (B 400 0) = 400 := (qx.2.1 0 (by decide)).2
      have l0 : LK M1 (B 400 0) 4 := qf.LK kl0 hV.c2
      have m0 := l0.1
      have n0 : ln M1 (B 400 0) = cn S 2 := qf.1
      have kl4 : kd M1 (B 404 0) = 404 := (qx.2.1 4 (by decide)).2
      have l4 : LK M1 (B 404 0) 9 := qr.LK kl4 hV
      have m4 := l4.1
      have n4 : ln M1 (B 404 0) = cn S 51 := qr.1
      have b24 := hV.c2
      have b51 := hV.c51
      have K1 : kd M1 (B 1 0) % 1000 = 1 := by rw [k1]
      have K172 : kd M1 (B 172 0) % 1000 = 172 := by rw [k172]
      have K173 : kd M1 (B 173 0) % 1000 = 173 := by rw [k173]
      have K174 : kd M1 (B 174 0) % 1000 = 174 := by rw [k174]
      refine z_iload_n g dX10_assignAll_9 rfl ?_
      refine z_aload_n g dX10_assignAll_10 rfl ?_
      refine z_getR g fl_X10_10 (by assumption) (by decide) rfl (by assumption) dX10_assignAll_11 ?_
      refine z_callL g _ _ cv_X10_67 rfl (c_alsize _ M1 (B 400 0) m0) (by assumption) rfl (by rw [hR]; decide) (by rw [hR]; decide) (by rw [hR]; decide) (Nat.le_of_ble_eq_true rfl) rfl dX10_assignAll_14 (fun _ _ h => False.elim h) (fun r_14 M_14 h_14 => ?_)
      obtain ⟨rfl, rfl⟩ := h_14
      rw [n0]
      refine z_icmp_ge (tgt := 95) g dX10_assignAll_17 (by decide) (fun c_17 => ?_) (fun c_17 => ?_)
      · rw [nI_leI (by omega) (by omega)] at c_17
        have hie : i = cn S 2 := by omega
        exact z_vret g hrt (by decide) (by decide) dX10_assignAll_95 ⟨rfl, hTc, hXc, by rw [← hie]; exact hEq⟩
      have hi : i < cn S 2 := by rw [nI_leI (by omega) (by omega)] at c_17; omega
      have aft : ∀ (M1 : Mm) (hA : AS B x S M i 4 M1), Z X M1 0 0 82 [(0, .ref x), (1, .int (nI i))] [] := by
        intro M1 hA
        obtain ⟨hXc, hEq, hCs, hTc⟩ := id hA
        obtain ⟨qx, qs, qf, qd, qg, qh, qp, qw, qm, qe, ql, qq, qt, qr, qc, qo, qi⟩ := id hXc
        have k11 : kd M1 x % 1000 = 11 := by rw [qx.1]
        obtain ⟨k1, k172, k173, k174, k177⟩ := qx.ka
        have r0 : fR M1 x 0 = some (B 400 0) := (qx.2.1 0 (by decide)).1
        have r4 : fR M1 x 4 = some (B 404 0) := (qx.2.1 4 (by decide)).1
        have r6 : fR M1 x 6 = some (B 1 0) := (qx.2.1 6 (by decide)).1
        have a0 : fR M1 (B 1 0) 0 = some (B 172 0) := (qx.2.2.1 0 (by decide)).1
        have a1 : fR M1 (B 1 0) 1 = some (B 173 0) := (qx.2.2.1 1 (by decide)).1
        have a2 : fR M1 (B 1 0) 2 = some (B 174 0) := (qx.2.2.1 2 (by decide)).1
        have e172 : ln M1 (B 172 0) = 4 := qx.2.2.2.2.2.2.1
        have e173 : ln M1 (B 173 0) = 16 := qx.2.2.2.2.2.2.2.1
        have e174 : ln M1 (B 174 0) = 16 := qx.2.2.2.2.2.2.2.2
        have kl0 : kd M1 (B 400 0) = 400 := (qx.2.1 0 (by decide)).2
        have l0 : LK M1 (B 400 0) 4 := qf.LK kl0 hV.c2
        have m0 := l0.1
        have n0 : ln M1 (B 400 0) = cn S 2 := qf.1
        have kl4 : kd M1 (B 404 0) = 404 := (qx.2.1 4 (by decide)).2
        have l4 : LK M1 (B 404 0) 9 := qr.LK kl4 hV
        have m4 := l4.1
        have n4 : ln M1 (B 404 0) = cn S 51 := qr.1
        have b24 := hV.c2
        have b51 := hV.c51
        have K1 : kd M1 (B 1 0) % 1000 = 1 := by rw [k1]
        have K172 : kd M1 (B 172 0) % 1000 = 172 := by rw [k172]
        have K173 : kd M1 (B 173 0) % 1000 = 173 := by rw [k173]
        have K174 : kd M1 (B 174 0) % 1000 = 174 := by rw [k174]
        refine z_aload_n g dX10_assignAll_82 rfl ?_
        refine z_getR g fl_X10_34 (by assumption) (by decide) rfl (by assumption) dX10_assignAll_83 ?_
        rw [← W2_self M1 (B 173 0) (B 174 0)]
        refine z_callV g _ _ cv_X10_433 (c_addF _ M1 (B 1 0) (B 172 0) (B 173 0) (B 174 0) K1 a0 a1 a2 K172 K173 K174 e172 e173 e174 (fI M1 (B 173 0), fI M1 (B 174 0)) _ rfl) K1 (by decide) rfl (by rw [hR]; decide) (by rw [hR]; decide) (by rw [hR]; decide) (Nat.le_of_ble_eq_true rfl) rfl dX10_assignAll_86 (fun _ _ h => False.elim h) (fun r_86 M_86 h_86 => ?_)
        obtain ⟨rfl, rfl⟩ := h_86
        refine z_iinc1 g dX10_assignAll_89 rfl (by rw [hN]; decide) ?_
        refine z_goto (tgt := 9) g dX10_assignAll_92 (by decide) ?_
        rw [nI_s]
        exact z_to (ih (k - 1) (by omega) (i + 1) _ (by omega) (hA.next hV (by omega))) ⟨rfl, rfl, trivial⟩
      have inner : ∀ (q k : Nat) (M1 : Mm) (hk : q + k = 4) (hA : AS B x S M i k M1), Z X M1 0 0 22 [(0, .ref x), (1, .int (nI i)), (2, .int (nI k))] [] := by
        intro q
        induction q using Nat.strongRecOn with
        | _ q ihk =>
          intro k M1 hk hA
          obtain ⟨hXc, hEq, hCs, hTc⟩ := id hA
          obtain ⟨qx, qs, qf, qd, qg, qh, qp, qw, qm, qe, ql, qq, qt, qr, qc, qo, qi⟩ := id hXc
          have k11 : kd M1 x % 1000 = 11 := by rw [qx.1]
          obtain ⟨k1, k172, k173, k174, k177⟩ := qx.ka
          have r0 : fR M1 x 0 = some (B 400 0) := (qx.2.1 0 (by decide)).1
          have r4 : fR M1 x 4 = some (B 404 0) := (qx.2.1 4 (by decide)).1
          have r6 : fR M1 x 6 = some (B 1 0) := (qx.2.1 6 (by decide)).1
          have a0 : fR M1 (B 1 0) 0 = some (B 172 0) := (qx.2.2.1 0 (by decide)).1
          have a1 : fR M1 (B 1 0) 1 = some (B 173 0) := (qx.2.2.1 1 (by decide)).1
          have a2 : fR M1 (B 1 0) 2 = some (B 174 0) := (qx.2.2.1 2 (by decide)).1
          have e172 : ln M1 (B 172 0) = 4 := qx.2.2.2.2.2.2.1
          have e173 : ln M1 (B 173 0) = 16 := qx.2.2.2.2.2.2.2.1
          have e174 : ln M1 (B 174 0) = 16 := qx.2.2.2.2.2.2.2.2
          have kl0 : kd M1 (B 400 0) = 400 := (qx.2.1 0 (by decide)).2
          have l0 : LK M1 (B 400 0) 4 := qf.LK kl0 hV.c2
          have m0 := l0.1
          have n0 : ln M1 (B 400 0) = cn S 2 := qf.1
          have kl4 : kd M1 (B 404 0) = 404 := (qx.2.1 4 (by decide)).2
          have l4 : LK M1 (B 404 0) 9 := qr.LK kl4 hV
          have m4 := l4.1
          have n4 : ln M1 (B 404 0) = cn S 51 := qr.1
          have b24 := hV.c2
          have b51 := hV.c51
          have K1 : kd M1 (B 1 0) % 1000 = 1 := by rw [k1]
          have K172 : kd M1 (B 172 0) % 1000 = 172 := by rw [k172]
          have K173 : kd M1 (B 173 0) % 1000 = 173 := by rw [k173]
          have K174 : kd M1 (B 174 0) % 1000 = 174 := by rw [k174]
          refine z_iload_n g dX10_assignAll_22 rfl ?_
          refine z_iconst (v := 4) g dX10_assignAll_23 (by decide) ?_
          refine z_icmp_ge (tgt := 82) g dX10_assignAll_24 (by decide) (fun c_24 => ?_) (fun c_24 => ?_)
          · rw [show (4 : Int32) = nI 4 from rfl, nI_leI (by decide) (by omega)] at c_24
            exact z_to (aft M1 (by rw [show (4 : Nat) = k by omega]; exact hA)) ⟨rfl, rfl, trivial⟩
          have h24 : k < 4 := by rw [show (4 : Int32) = nI 4 from rfl, nI_leI (by decide) (by omega)] at c_24; omega
          refine z_aload_n g dX10_assignAll_27 rfl ?_
          refine z_getR g fl_X10_34 (by assumption) (by decide) rfl (by assumption) dX10_assignAll_28 ?_
          refine z_iload_n g dX10_assignAll_31 rfl ?_
          refine z_iload_n g dX10_assignAll_32 rfl ?_
          refine z_aload_n g dX10_assignAll_33 rfl ?_
          refine z_getR g fl_X10_25 (by assumption) (by decide) rfl (by assumption) dX10_assignAll_34 ?_
          refine z_callL g _ _ cv_X10_67 rfl (c_alsize _ M1 (B 404 0) m4) (by assumption) rfl (by rw [hR]; decide) (by rw [hR]; decide) (by rw [hR]; decide) (Nat.le_of_ble_eq_true rfl) rfl dX10_assignAll_37 (fun _ _ h => False.elim h) (fun r_37 M_37 h_37 => ?_)
          obtain ⟨rfl, rfl⟩ := h_37
          rw [n4]
          refine z_icmp_ge (tgt := 72) g dX10_assignAll_40 (by decide) (fun c_40 => ?_) (fun c_40 => ?_)
          · rw [nI_leI (by omega) (by omega)] at c_40
            refine z_iconst (v := (-1)) g dX10_assignAll_72 (by decide) ?_
            refine z_callV g _ _ cv_X10_430 (c_setC _ M1 (B 1 0) (B 172 0) k K1 a0 K172 e172 h24 (-1)) (by assumption) (by decide) rfl (by rw [hR]; decide) (by rw [hR]; decide) (by rw [hR]; decide) (Nat.le_of_ble_eq_true rfl) rfl dX10_assignAll_73 (fun _ _ h => False.elim h) (fun r_73 M_73 h_73 => ?_)
            obtain ⟨rfl, rfl⟩ := h_73
            refine z_iinc1 g dX10_assignAll_76 rfl (by rw [hN]; decide) ?_
            refine z_goto (tgt := 22) g dX10_assignAll_79 (by decide) ?_
            rw [nI_s]
            exact z_to (ihk (q - 1) (by omega) (k + 1) _ (by omega) (hA.none hV (by unfold csv; rw [if_neg (by omega)]))) ⟨rfl, rfl, rfl, trivial⟩
          have hk4 : k < cn S 51 := by rw [nI_leI (by omega) (by omega)] at c_40; omega
          refine z_aload_n g dX10_assignAll_43 rfl ?_
          refine z_aload_n g dX10_assignAll_44 rfl ?_
          refine z_getR g fl_X10_25 (by assumption) (by decide) rfl (by assumption) dX10_assignAll_45 ?_
          refine z_iload_n g dX10_assignAll_48 rfl ?_
          refine z_callL g _ _ cv_X10_310 rfl (c_getL _ M1 (B 404 0) k l4 (by rw [n4]; exact hk4)) (by assumption) rfl (by rw [hR]; decide) (by rw [hR]; decide) (by rw [hR]; decide) (Nat.le_of_ble_eq_true rfl) rfl dX10_assignAll_49 (fun _ _ h => False.elim h) (fun r_49 M_49 h_49 => ?_)
          obtain ⟨rfl, rfl⟩ := h_49
          have kel : kd M1 (elt M1 (B 404 0) k) % 1000 = 9 := (l4.2.2 k (by rw [n4]; exact hk4)).2
          refine z_cast (b := 9) g cl_X10_305 rfl (by assumption) (by decide) dX10_assignAll_52 ?_
          refine z_aload_n g dX10_assignAll_55 rfl ?_
          refine z_getR g fl_X10_10 (by assumption) (by decide) rfl (by assumption) dX10_assignAll_56 ?_
          refine z_iload_n g dX10_assignAll_59 rfl ?_
          refine z_callL g _ _ cv_X10_310 rfl (c_getL _ M1 (B 400 0) i l0 (by rw [n0]; exact hi)) (by assumption) rfl (by rw [hR]; decide) (by rw [hR]; decide) (by rw [hR]; decide) (Nat.le_of_ble_eq_true rfl) rfl dX10_assignAll_60 (fun _ _ h => False.elim h) (fun r_60 M_60 h_60 => ?_)
          obtain ⟨rfl, rfl⟩ := h_60
          rw [qf.at4 hi]
          have k4f : kd M1 (B 4 i) % 1000 = 4 := qf.k4 hi
          refine z_cast (b := 4) g cl_X10_74 rfl (by assumption) (by decide) dX10_assignAll_63 ?_
          refine z_callV g _ _ cv_X10_314 (k_cost _ M1 hXc hV k i _ hk4 hi rfl) (by assumption) (by decide) rfl (by rw [hR]; decide) (by rw [hR]; decide) (by rw [hR]; decide) (Nat.le_of_ble_eq_true rfl) rfl dX10_assignAll_66 (fun _ _ h => False.elim h) (fun r_66 M_66 h_66 => ?_)
          obtain ⟨rfl, G2, rfl⟩ := h_66
          refine z_goto (tgt := 73) g dX10_assignAll_69 (by decide) ?_
          refine z_callV g _ _ cv_X10_430 (c_setC _ (rowI M1 (B 177 0) G2) (B 1 0) (B 172 0) k K1 a0 K172 e172 h24 (cstA S k i)) K1 (by decide) rfl (by rw [hR]; decide) (by rw [hR]; decide) (by rw [hR]; decide) (Nat.le_of_ble_eq_true rfl) rfl dX10_assignAll_73 (fun _ _ h => False.elim h) (fun r_73 M_73 h_73 => ?_)
          obtain ⟨rfl, rfl⟩ := h_73
          refine z_iinc1 g dX10_assignAll_76 rfl (by rw [hN]; decide) ?_
          refine z_goto (tgt := 22) g dX10_assignAll_79 (by decide) ?_
          rw [nI_s]
          exact z_to (ihk (q - 1) (by omega) (k + 1) _ (by omega) (hA.cost hV (by unfold csv; rw [if_pos hk4]) G2)) ⟨rfl, rfl, rfl, trivial⟩
      refine z_iconst (v := 0) g dX10_assignAll_20 (by decide) ?_
      refine z_istore_n g dX10_assignAll_21 (by rw [hN]; decide) ?_
      exact z_to (inner 4 0 M1 rfl ⟨hXc, hEq, fun b hb => absurd hb (Nat.not_lt_zero b), hTc⟩) ⟨rfl, rfl, rfl, trivial⟩
  have hXc := hX
  obtain ⟨qx, qs, qf, qd, qg, qh, qp, qw, qm, qe, ql, qq, qt, qr, qc, qo, qi⟩ := id hXc
  have k11 : kd M x % 1000 = 11 := by rw [qx.1]
  obtain ⟨k1, k172, k173, k174, k177⟩ := qx.ka
  have r0 : fR M x 0 = some (B 400 0) := (qx.2.1 0 (by decide)).1
  have r4 : fR M x 4 = some (B 404 0) := (qx.2.1 4 (by decide)).1
  have r6 : fR M x 6 = some (B 1 0) := (qx.2.1 6 (by decide)).1
  have a0 : fR M (B 1 0) 0 = some (B 172 0) := (qx.2.2.1 0 (by decide)).1
  have a1 : fR M (B 1 0) 1 = some (B 173 0) := (qx.2.2.1 1 (by decide)).1
  have a2 : fR M (B 1 0) 2 = some (B 174 0) := (qx.2.2.1 2 (by decide)).1
  have e172 : ln M (B 172 0) = 4 := qx.2.2.2.2.2.2.1
  have e173 : ln M (B 173 0) = 16 := qx.2.2.2.2.2.2.2.1
  have e174 : ln M (B 174 0) = 16 := qx.2.2.2.2.2.2.2.2
  have kl0 : kd M (B 400 0) = 400 := (qx.2.1 0 (by decide)).2
  have l0 : LK M (B 400 0) 4 := qf.LK kl0 hV.c2
  have m0 := l0.1
  have n0 : ln M (B 400 0) = cn S 2 := qf.1
  have kl4 : kd M (B 404 0) = 404 := (qx.2.1 4 (by decide)).2
  have l4 : LK M (B 404 0) 9 := qr.LK kl4 hV
  have m4 := l4.1
  have n4 : ln M (B 404 0) = cn S 51 := qr.1
  have b24 := hV.c2
  have b51 := hV.c51
  have K1 : kd M (B 1 0) % 1000 = 1 := by rw [k1]
  have K172 : kd M (B 172 0) % 1000 = 172 := by rw [k172]
  have K173 : kd M (B 173 0) % 1000 = 173 := by rw [k173]
  have K174 : kd M (B 174 0) % 1000 = 174 := by rw [k174]
  refine z_aload_n g dX10_assignAll_0 rfl ?_
  refine z_getR g fl_X10_34 (by assumption) (by decide) rfl (by assumption) dX10_assignAll_1 ?_
  refine z_callV g _ _ cv_X10_427 (c_begin _ M (B 1 0) (B 172 0) (B 173 0) (B 174 0) K1 a0 a1 a2 K172 K173 K174 e172 e173 e174) K1 (by decide) rfl (by rw [hR]; decide) (by rw [hR]; decide) (by rw [hR]; decide) (Nat.le_of_ble_eq_true rfl) rfl dX10_assignAll_4 (fun _ _ h => False.elim h) (fun r_4 M_4 h_4 => ?_)
  obtain ⟨S0, rfl, rfl, hS0⟩ := h_4
  have hn34 : B 173 0 ≠ B 174 0 := fun z => by rw [z, k174] at k173; cases k173
  have hk2 : ∀ G, kd (rowI M (B 173 0) G) (B 174 0) = 174 := fun G => k174
  have hA0 : AS B x S M 0 0 (W2 M (B 173 0) (B 174 0) S0) := ⟨(hXc.row hV k173 (by omega) _).row hV (hk2 _) (by omega) _, by rw [W2_w hn34, W2_l]; exact fun s hs => hS0 s hs, fun b hb => absurd hb (Nat.not_lt_zero b), (agr_row k173 (by omega) _).tr (agr_row (hk2 _) (by omega) _)⟩
  refine z_iconst (v := 0) g dX10_assignAll_7 (by decide) ?_
  refine z_istore_n g dX10_assignAll_8 (by rw [hN]; decide) ?_
  exact z_to (loop (cn S 2) 0 _ rfl hA0) ⟨rfl, rfl, trivial⟩
theorem pw16 {n : Nat} (h : n ≤ 4) : 2 ^ n - 1 < 16 := by
  have key : ∀ n, n < 5 → 2 ^ n - 1 < 16 := by decide
  exact key n (by omega)
set_option maxHeartbeats 4000000 in
set_option maxRecDepth 100000 in
theorem k_assign (E : Ev) {B : Nat → Nat → Nat} {x : Nat} {S : Ms} (M : Mm) (hX : RX B x S M) (hV : INV S) : CT E yX10_assign cX10_assign 1 (some .int) 10 16 500 [.ref x] M (fun r M' => r = (some (.int (vAssign S))) ∧ agr TC M M' ∧ ∃ B', RX B' x (sAssign S) M') (fun _ _ => False) := by
  refine CT.of rfl (Nat.le_of_ble_eq_true rfl) (fun X g hrt hno hE hN hR hI => ?_)
  subst hE
  refine z_aload_n g dX10_assign_0 rfl ?_
  refine z_callV g _ _ cv_X10_318 (k_asgAll _ M hX hV) (by rw [hX.1.1]) (by decide) rfl (by rw [hR]; decide) (by rw [hR]; decide) (by rw [hR]; decide) (Nat.le_of_ble_eq_true rfl) rfl dX10_assign_1 (fun _ _ h => False.elim h) (fun r_1 M_1 h_1 => ?_)
  obtain ⟨rfl, hT, hX1, hE1⟩ := h_1
  have hXc := hX1
  obtain ⟨qx, qs, qf, qd, qg, qh, qp, qw, qm, qe, ql, qq, qt, qr, qc, qo, qi⟩ := id hXc
  have k11 : kd M_1 x % 1000 = 11 := by rw [qx.1]
  obtain ⟨k1, k172, k173, k174, k177⟩ := qx.ka
  have r0 : fR M_1 x 0 = some (B 400 0) := (qx.2.1 0 (by decide)).1
  have r4 : fR M_1 x 4 = some (B 404 0) := (qx.2.1 4 (by decide)).1
  have r6 : fR M_1 x 6 = some (B 1 0) := (qx.2.1 6 (by decide)).1
  have a0 : fR M_1 (B 1 0) 0 = some (B 172 0) := (qx.2.2.1 0 (by decide)).1
  have a1 : fR M_1 (B 1 0) 1 = some (B 173 0) := (qx.2.2.1 1 (by decide)).1
  have a2 : fR M_1 (B 1 0) 2 = some (B 174 0) := (qx.2.2.1 2 (by decide)).1
  have e172 : ln M_1 (B 172 0) = 4 := qx.2.2.2.2.2.2.1
  have e173 : ln M_1 (B 173 0) = 16 := qx.2.2.2.2.2.2.2.1
  have e174 : ln M_1 (B 174 0) = 16 := qx.2.2.2.2.2.2.2.2
  have kl0 : kd M_1 (B 400 0) = 400 := (qx.2.1 0 (by decide)).2
  have l0 : LK M_1 (B 400 0) 4 := qf.LK kl0 hV.c2
  have m0 := l0.1
  have n0 : ln M_1 (B 400 0) = cn S 2 := qf.1
  have kl4 : kd M_1 (B 404 0) = 404 := (qx.2.1 4 (by decide)).2
  have l4 : LK M_1 (B 404 0) 9 := qr.LK kl4 hV
  have m4 := l4.1
  have n4 : ln M_1 (B 404 0) = cn S 51 := qr.1
  have b24 := hV.c2
  have b51 := hV.c51
  have K1 : kd M_1 (B 1 0) % 1000 = 1 := by rw [k1]
  have K172 : kd M_1 (B 172 0) % 1000 = 172 := by rw [k172]
  have K173 : kd M_1 (B 173 0) % 1000 = 173 := by rw [k173]
  have K174 : kd M_1 (B 174 0) % 1000 = 174 := by rw [k174]
  refine z_aload_n g dX10_assign_4 rfl ?_
  refine z_getR g fl_X10_34 (by assumption) (by decide) rfl (by assumption) dX10_assign_5 ?_
  refine z_aload_n g dX10_assign_8 rfl ?_
  refine z_getR g fl_X10_25 (by assumption) (by decide) rfl (by assumption) dX10_assign_9 ?_
  refine z_callL g _ _ cv_X10_67 rfl (c_alsize _ M_1 (B 404 0) m4) (by assumption) rfl (by rw [hR]; decide) (by rw [hR]; decide) (by rw [hR]; decide) (Nat.le_of_ble_eq_true rfl) rfl dX10_assign_12 (fun _ _ h => False.elim h) (fun r_12 M_12 h_12 => ?_)
  obtain ⟨rfl, rfl⟩ := h_12
  rw [n4]
  refine z_callV g _ _ cv_X10_321 (c_lFor _ M_1 (B 1 0) (B 172 0) (B 173 0) (B 174 0) K1 a0 a1 a2 K172 K173 K174 e172 e173 e174 (cn S 51) b51) K1 (by decide) rfl (by rw [hR]; decide) (by rw [hR]; decide) (by rw [hR]; decide) (Nat.le_of_ble_eq_true rfl) rfl dX10_assign_15 (fun _ _ h => False.elim h) (fun r_15 M_15 h_15 => ?_)
  obtain ⟨rfl, rfl⟩ := h_15
  exact z_iret g hrt rfl (by decide) (by decide) dX10_assign_18 ⟨congrArg (fun q => some (Value.int q)) (hE1 (2 ^ cn S 51 - 1) (pw16 b51)).2, hT, B, RX_wi0 0 hX1⟩
set_option maxHeartbeats 4000000 in
set_option maxRecDepth 100000 in
theorem k_ways (E : Ev) {B : Nat → Nat → Nat} {x : Nat} {S : Ms} (M : Mm) (hX : RX B x S M) (hV : INV S) : CT E yX10_ways cX10_ways 1 (some .int) 10 16 500 [.ref x] M (fun r M' => r = (some (.int (vWays S))) ∧ agr TC M M' ∧ ∃ B', RX B' x (sAssign S) M') (fun _ _ => False) := by
  refine CT.of rfl (Nat.le_of_ble_eq_true rfl) (fun X g hrt hno hE hN hR hI => ?_)
  subst hE
  refine z_aload_n g dX10_ways_0 rfl ?_
  refine z_callV g _ _ cv_X10_318 (k_asgAll _ M hX hV) (by rw [hX.1.1]) (by decide) rfl (by rw [hR]; decide) (by rw [hR]; decide) (by rw [hR]; decide) (Nat.le_of_ble_eq_true rfl) rfl dX10_ways_1 (fun _ _ h => False.elim h) (fun r_1 M_1 h_1 => ?_)
  obtain ⟨rfl, hT, hX1, hE1⟩ := h_1
  have hXc := hX1
  obtain ⟨qx, qs, qf, qd, qg, qh, qp, qw, qm, qe, ql, qq, qt, qr, qc, qo, qi⟩ := id hXc
  have k11 : kd M_1 x % 1000 = 11 := by rw [qx.1]
  obtain ⟨k1, k172, k173, k174, k177⟩ := qx.ka
  have r0 : fR M_1 x 0 = some (B 400 0) := (qx.2.1 0 (by decide)).1
  have r4 : fR M_1 x 4 = some (B 404 0) := (qx.2.1 4 (by decide)).1
  have r6 : fR M_1 x 6 = some (B 1 0) := (qx.2.1 6 (by decide)).1
  have a0 : fR M_1 (B 1 0) 0 = some (B 172 0) := (qx.2.2.1 0 (by decide)).1
  have a1 : fR M_1 (B 1 0) 1 = some (B 173 0) := (qx.2.2.1 1 (by decide)).1
  have a2 : fR M_1 (B 1 0) 2 = some (B 174 0) := (qx.2.2.1 2 (by decide)).1
  have e172 : ln M_1 (B 172 0) = 4 := qx.2.2.2.2.2.2.1
  have e173 : ln M_1 (B 173 0) = 16 := qx.2.2.2.2.2.2.2.1
  have e174 : ln M_1 (B 174 0) = 16 := qx.2.2.2.2.2.2.2.2
  have kl0 : kd M_1 (B 400 0) = 400 := (qx.2.1 0 (by decide)).2
  have l0 : LK M_1 (B 400 0) 4 := qf.LK kl0 hV.c2
  have m0 := l0.1
  have n0 : ln M_1 (B 400 0) = cn S 2 := qf.1
  have kl4 : kd M_1 (B 404 0) = 404 := (qx.2.1 4 (by decide)).2
  have l4 : LK M_1 (B 404 0) 9 := qr.LK kl4 hV
  have m4 := l4.1
  have n4 : ln M_1 (B 404 0) = cn S 51 := qr.1
  have b24 := hV.c2
  have b51 := hV.c51
  have K1 : kd M_1 (B 1 0) % 1000 = 1 := by rw [k1]
  have K172 : kd M_1 (B 172 0) % 1000 = 172 := by rw [k172]
  have K173 : kd M_1 (B 173 0) % 1000 = 173 := by rw [k173]
  have K174 : kd M_1 (B 174 0) % 1000 = 174 := by rw [k174]
  refine z_aload_n g dX10_ways_4 rfl ?_
  refine z_getR g fl_X10_34 (by assumption) (by decide) rfl (by assumption) dX10_ways_5 ?_
  refine z_aload_n g dX10_ways_8 rfl ?_
  refine z_getR g fl_X10_25 (by assumption) (by decide) rfl (by assumption) dX10_ways_9 ?_
  refine z_callL g _ _ cv_X10_67 rfl (c_alsize _ M_1 (B 404 0) m4) (by assumption) rfl (by rw [hR]; decide) (by rw [hR]; decide) (by rw [hR]; decide) (Nat.le_of_ble_eq_true rfl) rfl dX10_ways_12 (fun _ _ h => False.elim h) (fun r_12 M_12 h_12 => ?_)
  obtain ⟨rfl, rfl⟩ := h_12
  rw [n4]
  refine z_callV g _ _ cv_X10_324 (c_wFor _ M_1 (B 1 0) (B 172 0) (B 173 0) (B 174 0) K1 a0 a1 a2 K172 K173 K174 e172 e173 e174 (cn S 51) b51) K1 (by decide) rfl (by rw [hR]; decide) (by rw [hR]; decide) (by rw [hR]; decide) (Nat.le_of_ble_eq_true rfl) rfl dX10_ways_15 (fun _ _ h => False.elim h) (fun r_15 M_15 h_15 => ?_)
  obtain ⟨rfl, rfl⟩ := h_15
  exact z_iret g hrt rfl (by decide) (by decide) dX10_ways_18 ⟨congrArg (fun q => some (Value.int q)) (hE1 (2 ^ cn S 51 - 1) (pw16 b51)).1, hT, B, RX_wi0 0 hX1⟩
