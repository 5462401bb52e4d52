theorem RX.e177 {B : Nat → Nat → Nat} {x : Nat} {S : Ms} {M : Mm} (h : RX B x S M) (hV : INV S) (G : Nat → Int32) : RX B x S (rowI M (B 177 0) G) := by
  have hk : kd M (B 177 0) = 177 := h.1.k 9 (by decide)
  have g : agr (fun c _ => c = 177) M (rowI M (B 177 0) G) := agr.rowI (fun k => by rw [hk])
  obtain ⟨g1, g2, g3, g4, g5, g6, g7, g8, g9, g10, g11, g12, g13, g14, g15, g16, g17⟩ := h.fr hV g
  refine ⟨g1 ?_, g2 ?_, g3 ?_, g4 ?_, g5 ?_, g6 ?_, g7 ?_, g8 ?_, g9 ?_, g10 ?_, g11 ?_, g12 ?_, g13 ?_, g14 ?_, g15 ?_, g16 ?_, g17 ?_⟩
  all_goals
    intro c k z
    dsimp only
    simp only [uX, uS, uF, uD, uG, uH, uPl, uW, uM, uE, uLw, uQ, uT, uR, uC, uO, uSg] at z
    omega
def cwP (M : Mm) (l : Nat) (r1 : List Nat) : Nat → Int32
  | 0 => -1
  | p + 1 => if cwP M l r1 p = -1 ∨ ¬ cwP M l r1 p ≤ nI (lev r1 (wr (fL M (elt M l p) 1))) then nI (lev r1 (wr (fL M (elt M l p) 1))) else cwP M l r1 p
theorem cwP_cst {B : Nat → Nat → Nat} {S : Ms} {M : Mm} (h : qM B S M) {f rd : Nat} (hf : f < 24) : ∀ n, n ≤ cn S 17 → cwP M (B 410 f) (wr (gL S 52 rd)) (ctn (ofN S f) n) = cstL S rd f n
  | 0, _ => rfl
  | n + 1, hn => by
    have ih := cwP_cst h (rd := rd) hf n (by omega)
    rw [ctn, cstL]
    by_cases c : ofN S f n = true
    · rw [if_pos c, if_pos (of_decide_eq_true c), cwP, h.el7 hf (by omega) c, ih, (h.2 n (by omega)).2.2.2.1]
    · rw [if_neg c, if_neg (fun z => c (decide_eq_true z)), ih]
theorem cwP_b {M : Mm} {l : Nat} {r1 : List Nat} (h1 : r1.length ≤ 8) : ∀ {p : Nat}, (∀ i, i < p → (wr (fL M (elt M l i) 1)).length ≤ 8) → 0 < p → ∃ v, v ≤ 8 ∧ cwP M l r1 p = nI v
  | 0, _, h => absurd h (Nat.lt_irrefl _)
  | p + 1, h, _ => by
    have hb := lev_max r1 (wr (fL M (elt M l p) 1))
    have h2 := h p (by omega)
    rw [cwP]
    by_cases c : cwP M l r1 p = -1 ∨ ¬ cwP M l r1 p ≤ nI (lev r1 (wr (fL M (elt M l p) 1)))
    · rw [if_pos c]; exact ⟨_, by omega, rfl⟩
    · rw [if_neg c]
      rcases Nat.eq_zero_or_pos p with z | z
      · exact absurd (Or.inl (by rw [z]; rfl)) c
      · exact cwP_b h1 (fun i hi => h i (by omega)) z
def fwP (M : Mm) (l : Nat) (r1 : List Nat) (p : Nat) : Int32 := if p = 0 then 12 else cwP M l r1 p
theorem fwP_s {M : Mm} {l : Nat} {r1 : List Nat} (h1 : r1.length ≤ 8) {p : Nat} (h : ∀ i, i < p + 1 → (wr (fL M (elt M l i) 1)).length ≤ 8) :
    (if nI (lev r1 (wr (fL M (elt M l p) 1))) < fwP M l r1 p then nI (lev r1 (wr (fL M (elt M l p) 1))) else fwP M l r1 p) = fwP M l r1 (p + 1) := by
  have hb := lev_max r1 (wr (fL M (elt M l p) 1))
  have h2 := h p (by omega)
  unfold fwP
  rw [if_neg (Nat.succ_ne_zero p), cwP]
  rcases Nat.eq_zero_or_pos p with z | z
  · subst z
    rw [if_pos rfl, if_pos (show cwP M l r1 0 = -1 ∨ ¬ cwP M l r1 0 ≤ nI (lev r1 (wr (fL M (elt M l 0) 1))) from Or.inl rfl), show (12 : Int32) = nI 12 from rfl, if_pos (nI_lt (by omega) (by decide))]
  · obtain ⟨v, hv, e⟩ := cwP_b h1 (fun i hi => h i (by omega)) z
    rw [if_neg (show ¬ p = 0 by omega), e]
    by_cases c : nI (lev r1 (wr (fL M (elt M l p) 1))) < nI v
    · rw [if_pos c, if_pos (Or.inr (Int32.not_le.mpr c))]
    · rw [if_neg c, if_neg]
      rintro (q | q)
      · exact nI_m1n (by omega) q
      · exact c (Int32.not_le.mp q)
set_option maxHeartbeats 4000000 in
set_option maxRecDepth 100000 in
theorem k_cost (E : Ev) {B : Nat → Nat → Nat} {x : Nat} {S : Ms} (M : Mm) (hX : RX B x S M) (hV : INV S) (q f rd : Nat) (hq : q < cn S 51) (hf : f < cn S 2) (hrd : rd = elt M (B 404 0) q) : CT E yX10_costAt cX10_costAt 5 (some .int) 6 0 0 [.ref x, .ref rd, .ref (B 4 f)] M (fun r M' => r = some (.int (cstA S q f)) ∧ ∃ G', M' = rowI M (B 177 0) G') noX := by
  refine CT.of rfl (Nat.le_of_ble_eq_true rfl) (fun X g hrt hno hE hN hR hI => ?_)
  subst hE
  have hX0 := hX
  obtain ⟨qx, qs, qf, qd, qg, qh, qp, qw, qm, qe, ql, qq, qt, qr, qc, qo, qi⟩ := hX
  have k11 : kd M x % 1000 = 11 := by rw [qx.1]
  have r9 : fR M x 9 = some (B 177 0) := (qx.2.1 9 (by decide)).1
  have k4 : kd M (B 4 f) % 1000 = 4 := qf.k4 hf
  obtain ⟨-, -, ⟨fk0, fk1⟩, ⟨g2, g3, g4, g5, g6⟩, ⟨k5a, k5b, -⟩, e5a, e5b, l170⟩ := qf.2 f hf
  have k5a1 : kd M (B 5 (2 * f)) % 1000 = 5 := by rw [k5a]; omega
  have k5b1 : kd M (B 5 (2 * f + 1)) % 1000 = 5 := by rw [k5b]; omega
  have k170 : kd M (B 170 f) % 1000 = 170 := qf.k170 hf
  have ke : kd M (B 177 0) = 177 := (qx.2.1 9 (by decide)).2
  have lm : LK M (B 410 f) 7 := qm.LK qf hV hf
  have hl150 := lm.2.1
  have lm4 := lm.1
  have hf24 : f < 24 := by have := hV.c2; omega
  have hln : ln M (B 410 f) = ctn (ofN S f) (cn S 17) := qm.1 f hf
  have hwr := (hV.2.2.2.2.2.2.2.2.2.1 q hq).1
  obtain ⟨-, krd, hrw0, hrx, hry⟩ := qr.2 q hq
  rw [← hrd] at krd hrw0 hrx hry
  have hrw : fL M rd 0 = lN (lv (wr (gL S 52 q))) := hrw0.trans hwr.2.2
  have hrdne : rd ≠ B 177 0 := fun z => by rw [z, ke] at krd; cases krd
  have hlen : ∀ i, i < ln M (B 410 f) → (wr (fL M (elt M (B 410 f) i) 1)).length ≤ 8 := by
    intro i hi
    obtain ⟨n, hn, hof, hcn⟩ := ctn_sur (ofN S f) (by rw [← hln]; exact hi)
    rw [← hcn, qm.el7 hf24 hn hof, (qm.2 n hn).2.2.2.1]
    exact (hV.2.2.2.1 n hn).2.2.2.1.1.1
  have hc0 : ln M (B 410 f) = 0 → cstL S q f (cn S 17) = -1 := fun z => by
    rw [← cwP_cst qm hf24 _ (Nat.le_refl _), ← hln, z]; rfl
  refine z_aload_n g dX10_costAt_0 rfl ?_
  refine z_aload_n g dX10_costAt_1 rfl ?_
  refine z_getI g fl_X10_76 (by assumption) (by decide) rfl dX10_costAt_2 ?_
  rw [show fI M x 10 = gi S 1 from qs.1]
  refine z_aload_n g dX10_costAt_5 rfl ?_
  refine z_getI g fl_X10_76 (by assumption) (by decide) rfl dX10_costAt_6 ?_
  rw [show fI M x 10 = gi S 1 from qs.1]
  refine z_callV g _ _ cv_X10_128 (k_isTh _ M hX0 f hf (gi S 1) (gi S 1)) (by assumption) (by decide) rfl (by rw [hR]; decide) (by rw [hR]; decide) (by rw [hR]; decide) (Nat.le_of_ble_eq_true rfl) rfl dX10_costAt_9 (fun _ _ h => False.elim h) (fun r_9 M_9 h_9 => ?_)
  obtain ⟨rfl, rfl⟩ := h_9
  refine z_if_eq (tgt := 25) g dX10_costAt_12 (by decide) (fun c_12 => ?_) (fun c_12 => ?_)
  · refine z_iconst (v := (-1)) g dX10_costAt_25 (by decide) ?_
    exact z_iret g hrt rfl (by decide) (by decide) dX10_costAt_26 ⟨by unfold cstA; first | (rw [if_pos (Or.inr (b2i_0.mp c_12))]; done) | (rw [if_pos (Or.inl (hc0 (of_decide_eq_true (b2i_n0.mp c_22))))]; done), fI M (B 177 0), (rowI_self M (B 177 0)).symm⟩
  · refine z_aload_n g dX10_costAt_15 rfl ?_
    refine z_getR g fl_X10_158 (by assumption) (by decide) rfl (by assumption) dX10_costAt_16 ?_
    refine z_callL g _ _ cv_X10_395 rfl (c_alempty _ M (B 410 f) lm.1 (by omega)) (by assumption) rfl (by rw [hR]; decide) (by rw [hR]; decide) (by rw [hR]; decide) (Nat.le_of_ble_eq_true rfl) rfl dX10_costAt_19 (fun _ _ h => False.elim h) (fun r_19 M_19 h_19 => ?_)
    obtain ⟨rfl, rfl⟩ := h_19
    refine z_if_eq (tgt := 27) g dX10_costAt_22 (by decide) (fun c_22 => ?_) (fun c_22 => ?_)
    · have hpos : 0 < ln M (B 410 f) := by
        rcases Nat.eq_zero_or_pos (ln M (B 410 f)) with z | z
        · have h9 := b2i_0.mp c_22
          rw [decide_eq_true z] at h9; cases h9
        · exact z
      have hth : thA S f (gi S 1) (gi S 1) = true := b2i_n0.mp c_12
      obtain ⟨v, hv8, hv⟩ := cwP_b (M := M) (l := B 410 f) hwr.1.1 hlen hpos
      have hcst : cstL S q f (cn S 17) = nI v := by rw [← cwP_cst qm hf24 _ (Nat.le_refl _), ← hln]; exact hv
      have hcost : cstA S q f = if 60 < awyA S f (gA S 53 q) (gA S 54 q) + 10 * fwP M (B 410 f) (wr (gL S 52 q)) (ln M (B 410 f)) then -1 else awyA S f (gA S 53 q) (gA S 54 q) + 10 * fwP M (B 410 f) (wr (gL S 52 q)) (ln M (B 410 f)) := by
        unfold cstA fwP
        rw [hcst, if_neg (by rw [hth]; rintro (z | z); exact nI_m1n (by omega) z; cases z), if_neg (show ¬ ln M (B 410 f) = 0 by omega), hv, Int32.add_comm (10 * nI v) (awyA S f (gA S 53 q) (gA S 54 q))]
      have fin : ∀ (G' : Nat → Int32), Z X (rowI M (B 177 0) G') 0 0 79 [(0, .ref x), (1, .ref rd), (2, .ref (B 4 f)), (3, .int (fwP M (B 410 f) (wr (gL S 52 q)) (ln M (B 410 f))))] [] := by
        intro G'
        refine z_aload_n g dX10_costAt_79 rfl ?_
        refine z_aload_n g dX10_costAt_80 rfl ?_
        refine z_aload_n g dX10_costAt_81 rfl ?_
        refine z_getI g fl_X10_409 krd (by decide) rfl dX10_costAt_82 ?_
        rw [show fI (rowI M (B 177 0) G') rd 1 = gA S 53 q from (congrFun (rowI_n M G' hrdne) 1).trans hrx]
        refine z_aload_n g dX10_costAt_85 rfl ?_
        refine z_getI g fl_X10_412 krd (by decide) rfl dX10_costAt_86 ?_
        rw [show fI (rowI M (B 177 0) G') rd 2 = gA S 54 q from (congrFun (rowI_n M G' hrdne) 2).trans hry]
        refine z_callV g _ _ cv_X10_415 (k_dist _ (rowI M (B 177 0) G') (hX0.e177 hV G') hV f hf (gA S 53 q) (gA S 54 q)) (by assumption) (by decide) rfl (by rw [hR]; decide) (by rw [hR]; decide) (by rw [hR]; decide) (Nat.le_of_ble_eq_true rfl) rfl dX10_costAt_89 (fun _ _ h => False.elim h) (fun r_89 M_89 h_89 => ?_)
        obtain ⟨rfl, rfl⟩ := h_89
        refine z_bipush (v := 10) g dX10_costAt_92 (by decide) ?_
        refine z_iload_n g dX10_costAt_94 rfl ?_
        refine z_imul g dX10_costAt_95 ?_
        refine z_iadd g dX10_costAt_96 ?_
        refine z_istore g dX10_costAt_97 (by rw [hN]; decide) ?_
        refine z_iload g dX10_costAt_99 rfl ?_
        refine z_bipush (v := 60) g dX10_costAt_101 (by decide) ?_
        refine z_icmp_gt (tgt := 111) g dX10_costAt_103 (by decide) (fun c_103 => ?_) (fun c_103 => ?_)
        · refine z_iconst (v := (-1)) g dX10_costAt_111 (by decide) ?_
          exact z_iret g hrt rfl (by decide) (by decide) dX10_costAt_112 ⟨by rw [hcost]; first | (rw [if_pos c_103]; done) | (rw [if_neg c_103]; done), G', rfl⟩
        · refine z_iload g dX10_costAt_106 rfl ?_
          refine z_goto (tgt := 112) g dX10_costAt_108 (by decide) ?_
          exact z_iret g hrt rfl (by decide) (by decide) dX10_costAt_112 ⟨by rw [hcost]; first | (rw [if_pos c_103]; done) | (rw [if_neg c_103]; done), G', rfl⟩
      have loop : ∀ (k p : Nat) (G' : Nat → Int32) (hk : k + p = ln M (B 410 f)), Z X (rowI M (B 177 0) G') 0 0 33 [(0, .ref x), (1, .ref rd), (2, .ref (B 4 f)), (3, .int (fwP M (B 410 f) (wr (gL S 52 q)) p)), (4, .int (nI p))] [] := by
        intro k
        induction k using Nat.strongRecOn with
        | _ k ih =>
          intro p G' hk
          refine z_iload g dX10_costAt_33 rfl ?_
          refine z_aload_n g dX10_costAt_35 rfl ?_
          refine z_getR g fl_X10_158 k4 (by decide) rfl g4 dX10_costAt_36 ?_
          refine z_callL g _ _ cv_X10_67 rfl (c_alsize _ (rowI M (B 177 0) G') (B 410 f) lm.1) (by assumption) rfl (by rw [hR]; decide) (by rw [hR]; decide) (by rw [hR]; decide) (Nat.le_of_ble_eq_true rfl) rfl dX10_costAt_39 (fun _ _ h => False.elim h) (fun r_39 M_39 h_39 => ?_)
          obtain ⟨rfl, rfl⟩ := h_39
          rw [show ln (rowI M (B 177 0) G') (B 410 f) = ln M (B 410 f) from rfl]
          refine z_icmp_ge (tgt := 79) g dX10_costAt_42 (by decide) (fun c_42 => ?_) (fun c_42 => ?_)
          · rw [nI_leI (by omega) (by omega)] at c_42
            rw [show p = ln M (B 410 f) by omega]
            exact z_to (fin G') ⟨rfl, rfl, rfl, rfl, trivial⟩
          have hp : p < ln M (B 410 f) := by rw [nI_leI (by omega) (by omega)] at c_42; omega
          obtain ⟨n, hn, hof, hcn⟩ := ctn_sur (ofN S f) (by rw [← hln]; exact hp)
          have hel : elt M (B 410 f) p = B 7 n := by rw [← hcn]; exact qm.el7 (by omega) hn hof
          obtain ⟨-, k7a, -, hnw, -⟩ := qm.2 n hn
          have hwn := (hV.2.2.2.1 n hn).2.2.2.1
          have k7 : kd (rowI M (B 177 0) G') (elt M (B 410 f) p) % 1000 = 7 := by rw [hel]; show kd M (B 7 n) % 1000 = 7; rw [k7a]; omega
          refine z_iload_n g dX10_costAt_45 rfl ?_
          refine z_aload_n g dX10_costAt_46 rfl ?_
          refine z_aload_n g dX10_costAt_47 rfl ?_
          refine z_getL g fl_X10_401 krd (by decide) rfl dX10_costAt_48 ?_
          rw [show fL (rowI M (B 177 0) G') rd 0 = lN (lv (wr (gL S 52 q))) from hrw]
          refine z_aload_n g dX10_costAt_51 rfl ?_
          refine z_getR g fl_X10_158 k4 (by decide) rfl g4 dX10_costAt_52 ?_
          refine z_iload g dX10_costAt_55 rfl ?_
          refine z_callL g _ _ cv_X10_310 rfl (c_getL _ (rowI M (B 177 0) G') (B 410 f) p lm hp) (by assumption) rfl (by rw [hR]; decide) (by rw [hR]; decide) (by rw [hR]; decide) (Nat.le_of_ble_eq_true rfl) rfl dX10_costAt_57 (fun _ _ h => False.elim h) (fun r_57 M_57 h_57 => ?_)
          obtain ⟨rfl, rfl⟩ := h_57
          rw [show elt (rowI M (B 177 0) G') (B 410 f) p = elt M (B 410 f) p from rfl]
          refine z_cast (b := 7) g cl_X10_161 rfl k7 (by decide) dX10_costAt_60 ?_
          refine z_getL g fl_X10_377 k7 (by decide) rfl dX10_costAt_63 ?_
          rw [show fL (rowI M (B 177 0) G') (elt M (B 410 f) p) 1 = lN (lv (wr (gL S 20 n))) from by rw [hel]; exact hnw.trans hwn.2.2]
          refine z_callV g _ _ cv_X10_402 (k_cedit _ M k11 r9 (by rw [ke]) qx.2.2.2.2.2.1 (wr (gL S 52 q)) (wr (gL S 20 n)) hwr.1 hwn.1 G') (by assumption) (by decide) rfl (by rw [hR]; decide) (by rw [hR]; decide) (by rw [hR]; decide) (Nat.le_of_ble_eq_true rfl) rfl dX10_costAt_66 (fun _ _ h => False.elim h) (fun r_66 M_66 h_66 => ?_)
          obtain ⟨rfl, G2, rfl⟩ := h_66
          rw [show wr (gL S 20 n) = wr (fL M (elt M (B 410 f) p) 1) from by rw [hel, hnw]]
          refine z_mmin g ml_X10_406 (by rw [hR]; decide) (by rw [hR]; exact Nat.le_of_ble_eq_true rfl) (by rw [hR]; decide) (by rw [hR]; decide) dX10_costAt_69 ?_
          refine z_istore_n g dX10_costAt_72 (by rw [hN]; decide) ?_
          refine z_iinc1 g dX10_costAt_73 rfl (by rw [hN]; decide) ?_
          refine z_goto (tgt := 33) g dX10_costAt_76 (by decide) ?_
          rw [nI_s]
          refine z_to (ih (k - 1) (by omega) (p + 1) G2 (by omega)) ⟨rfl, rfl, rfl, ?_, rfl, trivial⟩
          rw [← fwP_s hwr.1.1 (fun i hi => hlen i (by omega))]; rfl
      refine z_bipush (v := 12) g dX10_costAt_27 (by decide) ?_
      refine z_istore_n g dX10_costAt_29 (by rw [hN]; decide) ?_
      refine z_iconst (v := 0) g dX10_costAt_30 (by decide) ?_
      refine z_istore g dX10_costAt_31 (by rw [hN]; decide) ?_
      rw [← rowI_self M (B 177 0)]
      exact z_to (loop (ln M (B 410 f)) 0 _ rfl) ⟨rfl, rfl, rfl, rfl, rfl, trivial⟩
    · refine z_iconst (v := (-1)) g dX10_costAt_25 (by decide) ?_
      exact z_iret g hrt rfl (by decide) (by decide) dX10_costAt_26 ⟨by unfold cstA; first | (rw [if_pos (Or.inr (b2i_0.mp c_12))]; done) | (rw [if_pos (Or.inl (hc0 (of_decide_eq_true (b2i_n0.mp c_22))))]; done), fI M (B 177 0), (rowI_self M (B 177 0)).symm⟩
def skA (S : Ms) (w : Int64) (x y : Int32) (f : Nat) : Int32 := if frL S f w 4 = true then awyA S f x y * 24 + nI f else if wtL S f w (cn S 17) = true then (200 + awyA S f x y) * 24 + nI f else -1
set_option maxHeartbeats 4000000 in
set_option maxRecDepth 100000 in
theorem k_skey (E : Ev) {B : Nat → Nat → Nat} {x : Nat} {S : Ms} (M : Mm) (hX : RX B x S M) (hV : INV S) (f : Nat) (hf : f < cn S 2) (w : Int64) (p q : Int32) : CT E yX10_searchKey cX10_searchKey 8 (some .int) 7 0 0 [.ref x, .int (nI f), .ref (B 4 f), .long w, .int p, .int q] M (ansI (skA S w p q f) M) noX := by
  refine CT.of rfl (Nat.le_of_ble_eq_true rfl) (fun X g hrt hno hE hN hR hI => ?_)
  subst hE
  have hX0 := hX
  obtain ⟨qx, qs, qf, qd, qg, qh, qp, qw, qm, qe, ql, qq, qt, qr, qc, qo, qi⟩ := hX
  have k11 : kd M x % 1000 = 11 := by rw [qx.1]
  have k4 : kd M (B 4 f) % 1000 = 4 := qf.k4 hf
  obtain ⟨-, -, ⟨fk0, fk1⟩, ⟨g2, g3, g4, g5, g6⟩, ⟨k5a, k5b, -⟩, e5a, e5b, l170⟩ := qf.2 f hf
  have k5a1 : kd M (B 5 (2 * f)) % 1000 = 5 := by rw [k5a]; omega
  have k5b1 : kd M (B 5 (2 * f + 1)) % 1000 = 5 := by rw [k5b]; omega
  have k170 : kd M (B 170 f) % 1000 = 170 := qf.k170 hf
  refine z_aload_n g dX10_searchKey_0 rfl ?_
  refine z_aload_n g dX10_searchKey_1 rfl ?_
  refine z_iload g dX10_searchKey_2 rfl ?_
  refine z_iload g dX10_searchKey_4 rfl ?_
  refine z_callV g _ _ cv_X10_415 (k_dist _ M hX0 hV f hf p q) (by assumption) (by decide) rfl (by rw [hR]; decide) (by rw [hR]; decide) (by rw [hR]; decide) (Nat.le_of_ble_eq_true rfl) rfl dX10_searchKey_6 (fun _ _ h => False.elim h) (fun r_6 M_6 h_6 => ?_)
  obtain ⟨rfl, rfl⟩ := h_6
  refine z_istore g dX10_searchKey_9 (by rw [hN]; decide) ?_
  refine z_aload_n g dX10_searchKey_11 rfl ?_
  refine z_aload_n g dX10_searchKey_12 rfl ?_
  refine z_lload_n g dX10_searchKey_13 rfl ?_
  refine z_callV g _ _ cv_X10_436 (k_fnw _ M hX0 hV f hf w) (by assumption) (by decide) rfl (by rw [hR]; decide) (by rw [hR]; decide) (by rw [hR]; decide) (Nat.le_of_ble_eq_true rfl) rfl dX10_searchKey_14 (fun _ _ h => False.elim h) (fun r_14 M_14 h_14 => ?_)
  obtain ⟨rfl, rfl⟩ := h_14
  refine z_if_eq (tgt := 28) g dX10_searchKey_17 (by decide) (fun c_17 => ?_) (fun c_17 => ?_)
  · refine z_aload_n g dX10_searchKey_28 rfl ?_
    refine z_lload_n g dX10_searchKey_29 rfl ?_
    refine z_callV g _ _ cv_X10_440 (k_wtL _ M hX0 hV f hf w) (by assumption) (by decide) rfl (by rw [hR]; decide) (by rw [hR]; decide) (by rw [hR]; decide) (Nat.le_of_ble_eq_true rfl) rfl dX10_searchKey_30 (fun _ _ h => False.elim h) (fun r_30 M_30 h_30 => ?_)
    obtain ⟨rfl, rfl⟩ := h_30
    refine z_if_eq (tgt := 50) g dX10_searchKey_33 (by decide) (fun c_33 => ?_) (fun c_33 => ?_)
    · refine z_iconst (v := (-1)) g dX10_searchKey_50 (by decide) ?_
      exact z_iret g hrt rfl (by decide) (by decide) dX10_searchKey_51 ⟨by unfold skA; first | (rw [if_pos (b2i_n0.mp c_17)]; done) | (rw [if_neg (by rw [b2i_0.mp c_17]; decide), if_pos (b2i_n0.mp c_33)]; done) | (rw [if_neg (by rw [b2i_0.mp c_17]; decide), if_neg (by rw [b2i_0.mp c_33]; decide)]; done), rfl⟩
    · refine z_sipush (v := 200) g dX10_searchKey_36 (by decide) ?_
      refine z_iload g dX10_searchKey_39 rfl ?_
      refine z_iadd g dX10_searchKey_41 ?_
      refine z_bipush (v := 24) g dX10_searchKey_42 (by decide) ?_
      refine z_imul g dX10_searchKey_44 ?_
      refine z_iload_n g dX10_searchKey_45 rfl ?_
      refine z_iadd g dX10_searchKey_46 ?_
      refine z_goto (tgt := 51) g dX10_searchKey_47 (by decide) ?_
      exact z_iret g hrt rfl (by decide) (by decide) dX10_searchKey_51 ⟨by unfold skA; first | (rw [if_pos (b2i_n0.mp c_17)]; done) | (rw [if_neg (by rw [b2i_0.mp c_17]; decide), if_pos (b2i_n0.mp c_33)]; done) | (rw [if_neg (by rw [b2i_0.mp c_17]; decide), if_neg (by rw [b2i_0.mp c_33]; decide)]; done), rfl⟩
  · refine z_iload g dX10_searchKey_20 rfl ?_
    refine z_bipush (v := 24) g dX10_searchKey_22 (by decide) ?_
    refine z_imul g dX10_searchKey_24 ?_
    refine z_iload_n g dX10_searchKey_25 rfl ?_
    refine z_iadd g dX10_searchKey_26 ?_
    exact z_iret g hrt rfl (by decide) (by decide) dX10_searchKey_27 ⟨by unfold skA; first | (rw [if_pos (b2i_n0.mp c_17)]; done) | (rw [if_neg (by rw [b2i_0.mp c_17]; decide), if_pos (b2i_n0.mp c_33)]; done) | (rw [if_neg (by rw [b2i_0.mp c_17]; decide), if_neg (by rw [b2i_0.mp c_33]; decide)]; done), rfl⟩
def cfA (g : Nat → Int32) (v : Int32) : Nat → Nat
  | 0 => 0
  | n + 1 => if ¬ g n = -1 ∧ ¬ v ≤ g n then cfA g v n + 1 else cfA g v n
theorem cfA_le (g : Nat → Int32) (v : Int32) : ∀ n, cfA g v n ≤ n
  | 0 => Nat.le_refl _
  | n + 1 => by have := cfA_le g v n; rw [cfA]; split <;> omega
set_option maxHeartbeats 4000000 in
set_option maxRecDepth 100000 in
theorem k_cfa (E : Ev) {x e : Nat} (M : Mm) (k11 : kd M x % 1000 = 11) (r8 : fR M x 8 = some e) (ke : kd M e % 1000 = 176) (le : ln M e = 24) (v : Int32) : CT E yX10_countFoundAhead cX10_countFoundAhead 4 (some .int) 1 0 0 [.ref x, .int v] M (ansI (nI (cfA (fI M e) v 24)) M) noX := by
  refine CT.of rfl (Nat.le_of_ble_eq_true rfl) (fun X g hrt hno hE hN hR hI => ?_)
  subst hE
  have loop : ∀ (k j : Nat) (hk : k + j = 24), Z X M 0 0 4 [(0, .ref x), (1, .int v), (2, .int (nI (cfA (fI M e) v j))), (3, .int (nI j))] [] := by
    intro k
    induction k using Nat.strongRecOn with
    | _ k ih =>
      intro j hk
      refine z_iload_n g dX10_countFoundAhead_4 rfl ?_
      refine z_aload_n g dX10_countFoundAhead_5 rfl ?_
      refine z_getR g fl_X10_42 k11 (by decide) rfl r8 dX10_countFoundAhead_6 ?_
      refine z_alenIk (k := 176) g ke (by decide) dX10_countFoundAhead_9 ?_
      rw [le]
      refine z_icmp_ge (tgt := 42) g dX10_countFoundAhead_10 (by decide) (fun c_10 => ?_) (fun c_10 => ?_)
      · rw [nI_leI (by decide) (by omega)] at c_10
        refine z_iload_n g dX10_countFoundAhead_42 rfl ?_
        exact z_iret g hrt rfl (by decide) (by decide) dX10_countFoundAhead_43 ⟨by rw [show (24 : Nat) = j by omega], rfl⟩
      have h10 : j < 24 := by rw [nI_leI (by decide) (by omega)] at c_10; omega
      refine z_aload_n g dX10_countFoundAhead_13 rfl ?_
      refine z_getR g fl_X10_42 k11 (by decide) rfl r8 dX10_countFoundAhead_14 ?_
      refine z_iload_n g dX10_countFoundAhead_17 rfl ?_
      refine z_ialdk (k := 176) g ke (by decide) (vp_in_nI (by rw [le]; omega) (by rw [le]; decide)) dX10_countFoundAhead_18 ?_
      rw [nI_clamp (by omega)]
      refine z_iconst (v := (-1)) g dX10_countFoundAhead_19 (by decide) ?_
      refine z_icmp_eq (tgt := 36) g dX10_countFoundAhead_20 (by decide) (fun c_20 => ?_) (fun c_20 => ?_)
      · refine z_iinc1 g dX10_countFoundAhead_36 rfl (by rw [hN]; decide) ?_
        refine z_goto (tgt := 4) g dX10_countFoundAhead_39 (by decide) ?_
        have hs := ih (k - 1) (by omega) (j + 1) (by omega)
        simp only [nI_s]
        first
          | (rw [cfA, if_pos ⟨c_20, c_30⟩] at hs
             exact z_to hs ⟨rfl, rfl, rfl, rfl, trivial⟩)
          | (rw [cfA, if_neg (fun z => by first | exact z.1 c_20 | exact z.2 c_30)] at hs
             exact z_to hs ⟨rfl, rfl, rfl, rfl, trivial⟩)
      · refine z_aload_n g dX10_countFoundAhead_23 rfl ?_
        refine z_getR g fl_X10_42 k11 (by decide) rfl r8 dX10_countFoundAhead_24 ?_
        refine z_iload_n g dX10_countFoundAhead_27 rfl ?_
        refine z_ialdk (k := 176) g ke (by decide) (vp_in_nI (by rw [le]; omega) (by rw [le]; decide)) dX10_countFoundAhead_28 ?_
        rw [nI_clamp (by omega)]
        refine z_iload_n g dX10_countFoundAhead_29 rfl ?_
        refine z_icmp_ge (tgt := 36) g dX10_countFoundAhead_30 (by decide) (fun c_30 => ?_) (fun c_30 => ?_)
        · refine z_iinc1 g dX10_countFoundAhead_36 rfl (by rw [hN]; decide) ?_
          refine z_goto (tgt := 4) g dX10_countFoundAhead_39 (by decide) ?_
          have hs := ih (k - 1) (by omega) (j + 1) (by omega)
          simp only [nI_s]
          first
            | (rw [cfA, if_pos ⟨c_20, c_30⟩] at hs
               exact z_to hs ⟨rfl, rfl, rfl, rfl, trivial⟩)
            | (rw [cfA, if_neg (fun z => by first | exact z.1 c_20 | exact z.2 c_30)] at hs
               exact z_to hs ⟨rfl, rfl, rfl, rfl, trivial⟩)
        · refine z_iinc1 g dX10_countFoundAhead_33 rfl (by rw [hN]; decide) ?_
          refine z_iinc1 g dX10_countFoundAhead_36 rfl (by rw [hN]; decide) ?_
          refine z_goto (tgt := 4) g dX10_countFoundAhead_39 (by decide) ?_
          have hs := ih (k - 1) (by omega) (j + 1) (by omega)
          simp only [nI_s]
          first
            | (rw [cfA, if_pos ⟨c_20, c_30⟩] at hs
               exact z_to hs ⟨rfl, rfl, rfl, rfl, trivial⟩)
            | (rw [cfA, if_neg (fun z => by first | exact z.1 c_20 | exact z.2 c_30)] at hs
               exact z_to hs ⟨rfl, rfl, rfl, rfl, trivial⟩)
  refine z_iconst (v := 0) g dX10_countFoundAhead_0 (by decide) ?_
  refine z_istore_n g dX10_countFoundAhead_1 (by rw [hN]; decide) ?_
  refine z_iconst (v := 0) g dX10_countFoundAhead_2 (by decide) ?_
  refine z_istore_n g dX10_countFoundAhead_3 (by rw [hN]; decide) ?_
  exact z_to (loop 24 0 rfl) ⟨rfl, rfl, rfl, rfl, trivial⟩
