/-! ===== the law's own methods: a call, its exceptions as numbers (printed by gen/mk_laww.py) ===== -/
theorem in01 : vp_in 0 1 := vp_in_nI (show 0 < 1 by decide) (by decide)
/-- the class's kinds and the row for answers -/
def TL (c k : Nat) : Prop := TC c k ∨ c = 290
theorem fL_s {M : Mm} {a k : Nat} {v : Int64} : fL (sL M a k v) a k = v := by rw [fL_sL, if_pos ⟨rfl, rfl⟩]
theorem TC_o : ∀ k, ¬ TC 290 k := fun k z => by unfold TC at z; omega
theorem TC_o1 : ¬ TC 1290 0 := fun z => by unfold TC at z; omega
/-- behind the class's call the answer is put away -/
theorem put_o {B : Nat → Nat → Nat} {x o : Nat} {S : Ms} {M M1 : Mm} {v : Int64} (ko : kd M o = 290) (g : agr TC M M1) (hX : RX B x S M1) (hV : INV S) : agr TL M (sL M1 o 0 v) ∧ RX B x S (sL M1 o 0 v) := by
  have k1 : kd M1 o = 290 := (g.K (by rw [ko]; decide)).trans ko
  have g2 : agr (fun c _ => c = 290) M1 (sL M1 o 0 v) := agr.sL (by rw [k1])
  exact ⟨(g.mono (fun c k z => Or.inl z)).tr (g2.mono (fun c k z => Or.inr z)), hX.all hV g2 (fun c k z e => by rw [e] at z; exact TC_o k z)⟩
theorem o_kl {M M1 : Mm} {o : Nat} (ko : kd M o = 290) (lo : ln M o = 1) (g : agr TC M M1) : kd M1 o % 1000 = 290 ∧ ln M1 o = 1 :=
  ⟨by rw [g.K (by rw [ko]; decide), ko], (g.N (c := 290) (by rw [ko]) (by decide) TC_o1).trans lo⟩
theorem I_Of {S : Ms} (h : INV S) {f : Int32} {w : Int32} {d : Int32} {k : Int32} (_ : cOf S f w d k = 0) : INV (sOf S f w d k) := INV_wi0 0 h
theorem I_Form {S : Ms} (h : INV S) {f : Int32} {t : Int32} {d : Int32} {k : Int32} (_ : cForm S f t d k = 0) : INV (sForm S f t d k) := INV_wi0 0 h
theorem I_PetOf {S : Ms} (h : INV S) {f : Int32} {w : Int32} (_ : cPetOf S f w = 0) : INV (sPetOf S f w) := INV_wi0 0 h
theorem I_Shown {S : Ms} (h : INV S) {f : Int32} {d : Int32} (_ : cShown S f d = 0) : INV (sShown S f d) := INV_wi0 0 h
theorem I_Display {S : Ms} (h : INV S) {f : Int32} {t : Int32} (_ : cDisplay S f t = 0) : INV (sDisplay S f t) := INV_wi0 0 h
theorem I_Write {S : Ms} (h : INV S) {w : Int64} {t : Int32} (_ : cWrite S w t = 0) : INV (sWrite S w t) := INV_wi0 0 h
theorem I_Loss {S : Ms} (h : INV S) {f : Int32} (_ : cLoss S f = 0) : INV (sLoss S f) := INV_wi0 0 h
theorem I_Cost {S : Ms} (h : INV S) {q : Int32} {f : Int32} (_ : cCost S q f = 0) : INV (sCost S q f) := INV_wi0 0 h
theorem I_Find {S : Ms} (h : INV S) {w : Int64} {p : Int32} {q : Int32} {y : Int32} (_ : cFind S w p q y = 0) : INV (sFind S w p q y) := INV_wi0 0 h
theorem I_Copy {S : Ms} (h : INV S) {s : Int32} {f : Int32} {t : Int32} (_ : cCopy S s f t = 0) : INV (sCopy S s f t) := INV_wi0 0 h
theorem I_Sign {S : Ms} (h : INV S) {f : Int32} (_ : cSign S f = 0) : INV (sSign S f) := INV_wi0 0 h
theorem nc_IAE_IOE : (IAE, IOE) ∈ znc := by decide
theorem nc_ISE_IOE : (ISE, IOE) ∈ znc := by decide
theorem nc_ISE_IAE : (ISE, IAE) ∈ znc := by decide
theorem nc_IOE_IAE : (IOE, IAE) ∈ znc := by decide
set_option maxHeartbeats 4000000 in
set_option maxRecDepth 100000 in
theorem w_feature (E : Ev) {B : Nat → Nat → Nat} {x : Nat} {S : Ms} (M : Mm) (hX : RX B x S M) (hV : INV S) (o : Nat) (ko : kd M o = 290) (lo1 : ln M o = 1) (k : Int32) (p : Int32) (q : Int32) : CTH E yL_feature cL_feature 6 (some .int) [(0, 12, 15, 13), (0, 12, 19, 15)] 11 16 500 [.ref x, .int k, .int p, .int q, .ref o] M (fun r M' => r = some (.int (cFeature S k p q)) ∧ (cFeature S k p q = 0 → fL M' o 0 = (vFeature S k p q).toInt64) ∧ agr TL M M' ∧ ∃ B', RX B' x (opS (cFeature S k p q) S (sFeature S k p q)) M') noX := by
  refine CTH.of rfl (Nat.le_of_ble_eq_true rfl) (fun X g hrt hhh hE hN hR => ?_)
  subst hE
  have k11 : kd M x % 1000 = 11 := by rw [hX.1.1]
  refine z_aload g dL_feature_0 rfl ?_
  refine z_iconst (v := 0) g dL_feature_2 (by decide) ?_
  refine z_aload_n g dL_feature_3 rfl ?_
  refine z_iload_n g dL_feature_4 rfl ?_
  refine z_iload_n g dL_feature_5 rfl ?_
  refine z_iload_n g dL_feature_6 rfl ?_
  refine z_callV g _ _ cv_L_7 (k_feature _ M hX hV k p q) k11 (by decide) rfl (by rw [hR]; decide) (by rw [hR]; decide) (by rw [hR]; decide) (Nat.le_of_ble_eq_true rfl) rfl dL_feature_7 (fun E9 M9 h9 => ?_) (fun r_9 M1 h_9 => ?_)
  · obtain ⟨rfl, h9⟩ := h9
    rcases h9 with ⟨e0, rfl⟩ | ⟨e1, rfl⟩
    · refine zx_catch g hhh (tableOf []) ⟨0, 12, 15, 13⟩ (tableOf [(0, 12, 19, 15)]) rfl (fun z hz => nomatch hz) (by decide) (show (13 : Nat) ≠ 0 by decide) hl_IAE hc_IAE (fun qq => ?_)
      refine z_astore g dL_feature_15 (by rw [hN]; decide) ?_
      refine z_iconst (v := 1) g dL_feature_17 (by decide) ?_
      exact z_iret g hrt (by decide) (by decide) (by decide) dL_feature_18 ⟨by rw [e0], fun z => absurd (e0.symm.trans z) (by decide), agr.rf, B, by rw [e0, opS_1]; exact RX_wi0 1 hX⟩
    · refine zx_catch g hhh (tableOf [(0, 12, 15, 13)]) ⟨0, 12, 19, 15⟩ (tableOf []) rfl (fun z hz => by
        simp only [tableOf, List.map, List.mem_cons, List.not_mem_nil, or_false] at hz
        subst hz
        · exact Or.inr ⟨(by decide : (13 : Nat) ≠ 0), IAE, hl_IAE, nc_ISE_IAE⟩) (by decide) (show (15 : Nat) ≠ 0 by decide) hl_ISE hc_ISE (fun qq => ?_)
      refine z_astore g dL_feature_19 (by rw [hN]; decide) ?_
      refine z_iconst (v := 2) g dL_feature_21 (by decide) ?_
      exact z_iret g hrt (by decide) (by decide) (by decide) dL_feature_22 ⟨by rw [e1], fun z => absurd (e1.symm.trans z) (by decide), agr.rf, B, by rw [e1, opS_2]; exact RX_wi0 2 hX⟩
  obtain ⟨hc0, rfl, g1, B2, hX2⟩ := h_9
  have hV2 := I_Feature hV hc0
  obtain ⟨k1, l1⟩ := o_kl ko lo1 g1
  refine z_i2l g dL_feature_10 ?_
  refine z_lastk (k := 290) g k1 (by decide) (by rw [l1]; exact in01) dL_feature_11 ?_
  rw [show (0 : Int32).toNatClampNeg = 0 from rfl]
  have hO := put_o (v := (vFeature S k p q).toInt64) ko g1 hX2 hV2
  refine z_goto (tgt := 23) g dL_feature_12 (by decide) ?_
  refine z_iconst (v := 0) g dL_feature_23 (by decide) ?_
  exact z_iret g hrt (by decide) (by decide) (by decide) dL_feature_24 ⟨by rw [hc0], fun _ => fL_s, hO.1, B2, by rw [hc0, opS_0]; exact hO.2⟩
set_option maxHeartbeats 4000000 in
set_option maxRecDepth 100000 in
theorem w_move (E : Ev) {B : Nat → Nat → Nat} {x : Nat} {S : Ms} (M : Mm) (hX : RX B x S M) (hV : INV S) (f : Int32) (p : Int32) (q : Int32) (d : Int32) : CTH E yL_move cL_move 6 (some .int) [(0, 9, 12, 21), (0, 9, 16, 13), (0, 9, 20, 15)] 11 16 500 [.ref x, .int f, .int p, .int q, .int d] M (fun r M' => r = some (.int (cMove S f p q d)) ∧ agr TL M M' ∧ ∃ B', RX B' x (opS (cMove S f p q d) S (sMove S f p q d)) M') noX := by
  refine CTH.of rfl (Nat.le_of_ble_eq_true rfl) (fun X g hrt hhh hE hN hR => ?_)
  subst hE
  have k11 : kd M x % 1000 = 11 := by rw [hX.1.1]
  refine z_aload_n g dL_move_0 rfl ?_
  refine z_iload_n g dL_move_1 rfl ?_
  refine z_iload_n g dL_move_2 rfl ?_
  refine z_iload_n g dL_move_3 rfl ?_
  refine z_iload g dL_move_4 rfl ?_
  refine z_callV g _ _ cv_L_17 (k_move _ M hX hV f p q d) k11 (by decide) rfl (by rw [hR]; decide) (by rw [hR]; decide) (by rw [hR]; decide) (Nat.le_of_ble_eq_true rfl) rfl dL_move_6 (fun E9 M9 h9 => ?_) (fun r_9 M1 h_9 => ?_)
  · obtain ⟨rfl, h9⟩ := h9
    rcases h9 with ⟨e0, rfl⟩ | ⟨e1, rfl⟩ | ⟨e2, rfl⟩
    · refine zx_catch g hhh (tableOf []) ⟨0, 9, 12, 21⟩ (tableOf [(0, 9, 16, 13), (0, 9, 20, 15)]) rfl (fun z hz => nomatch hz) (by decide) (show (21 : Nat) ≠ 0 by decide) hl_IOE hc_IOE (fun qq => ?_)
      refine z_astore g dL_move_12 (by rw [hN]; decide) ?_
      refine z_iconst (v := 1) g dL_move_14 (by decide) ?_
      exact z_iret g hrt (by decide) (by decide) (by decide) dL_move_15 ⟨by rw [e0], agr.rf, B, by rw [e0, opS_1]; exact RX_wi0 1 hX⟩
    · refine zx_catch g hhh (tableOf [(0, 9, 12, 21)]) ⟨0, 9, 16, 13⟩ (tableOf [(0, 9, 20, 15)]) rfl (fun z hz => by
        simp only [tableOf, List.map, List.mem_cons, List.not_mem_nil, or_false] at hz
        subst hz
        · exact Or.inr ⟨(by decide : (21 : Nat) ≠ 0), IOE, hl_IOE, nc_IAE_IOE⟩) (by decide) (show (13 : Nat) ≠ 0 by decide) hl_IAE hc_IAE (fun qq => ?_)
      refine z_astore g dL_move_16 (by rw [hN]; decide) ?_
      refine z_iconst (v := 2) g dL_move_18 (by decide) ?_
      exact z_iret g hrt (by decide) (by decide) (by decide) dL_move_19 ⟨by rw [e1], agr.rf, B, by rw [e1, opS_2]; exact RX_wi0 2 hX⟩
    · refine zx_catch g hhh (tableOf [(0, 9, 12, 21), (0, 9, 16, 13)]) ⟨0, 9, 20, 15⟩ (tableOf []) rfl (fun z hz => by
        simp only [tableOf, List.map, List.mem_cons, List.not_mem_nil, or_false] at hz
        rcases hz with rfl | rfl
        · exact Or.inr ⟨(by decide : (21 : Nat) ≠ 0), IOE, hl_IOE, nc_ISE_IOE⟩
        · exact Or.inr ⟨(by decide : (13 : Nat) ≠ 0), IAE, hl_IAE, nc_ISE_IAE⟩) (by decide) (show (15 : Nat) ≠ 0 by decide) hl_ISE hc_ISE (fun qq => ?_)
      refine z_astore g dL_move_20 (by rw [hN]; decide) ?_
      refine z_iconst (v := 3) g dL_move_22 (by decide) ?_
      exact z_iret g hrt (by decide) (by decide) (by decide) dL_move_23 ⟨by rw [e2], agr.rf, B, by rw [e2, opS_3]; exact RX_wi0 3 hX⟩
  obtain ⟨hc0, rfl, g1, B2, hX2⟩ := h_9
  have hV2 := I_Move hV hc0
  refine z_goto (tgt := 24) g dL_move_9 (by decide) ?_
  refine z_iconst (v := 0) g dL_move_24 (by decide) ?_
  exact z_iret g hrt (by decide) (by decide) (by decide) dL_move_25 ⟨by rw [hc0], g1.mono (fun c k z => Or.inl z), B2, by rw [hc0, opS_0]; exact hX2⟩
set_option maxHeartbeats 4000000 in
set_option maxRecDepth 100000 in
theorem w_part (E : Ev) {B : Nat → Nat → Nat} {x : Nat} {S : Ms} (M : Mm) (hX : RX B x S M) (hV : INV S) (f : Int32) (w : Int32) (d : Int32) : CTH E yL_part cL_part 5 (some .int) [(0, 7, 10, 21), (0, 7, 14, 13), (0, 7, 18, 15)] 11 16 500 [.ref x, .int f, .int w, .int d] M (fun r M' => r = some (.int (cPart S f w d)) ∧ agr TL M M' ∧ ∃ B', RX B' x (opS (cPart S f w d) S (sPart S f w d)) M') noX := by
  refine CTH.of rfl (Nat.le_of_ble_eq_true rfl) (fun X g hrt hhh hE hN hR => ?_)
  subst hE
  have k11 : kd M x % 1000 = 11 := by rw [hX.1.1]
  refine z_aload_n g dL_part_0 rfl ?_
  refine z_iload_n g dL_part_1 rfl ?_
  refine z_iload_n g dL_part_2 rfl ?_
  refine z_iload_n g dL_part_3 rfl ?_
  refine z_callV g _ _ cv_L_23 (k_part _ M hX hV f w d) k11 (by decide) rfl (by rw [hR]; decide) (by rw [hR]; decide) (by rw [hR]; decide) (Nat.le_of_ble_eq_true rfl) rfl dL_part_4 (fun E9 M9 h9 => ?_) (fun r_9 M1 h_9 => ?_)
  · obtain ⟨rfl, h9⟩ := h9
    rcases h9 with ⟨e0, rfl⟩ | ⟨e1, rfl⟩ | ⟨e2, rfl⟩
    · refine zx_catch g hhh (tableOf []) ⟨0, 7, 10, 21⟩ (tableOf [(0, 7, 14, 13), (0, 7, 18, 15)]) rfl (fun z hz => nomatch hz) (by decide) (show (21 : Nat) ≠ 0 by decide) hl_IOE hc_IOE (fun qq => ?_)
      refine z_astore g dL_part_10 (by rw [hN]; decide) ?_
      refine z_iconst (v := 1) g dL_part_12 (by decide) ?_
      exact z_iret g hrt (by decide) (by decide) (by decide) dL_part_13 ⟨by rw [e0], agr.rf, B, by rw [e0, opS_1]; exact RX_wi0 1 hX⟩
    · refine zx_catch g hhh (tableOf [(0, 7, 10, 21)]) ⟨0, 7, 14, 13⟩ (tableOf [(0, 7, 18, 15)]) rfl (fun z hz => by
        simp only [tableOf, List.map, List.mem_cons, List.not_mem_nil, or_false] at hz
        subst hz
        · exact Or.inr ⟨(by decide : (21 : Nat) ≠ 0), IOE, hl_IOE, nc_IAE_IOE⟩) (by decide) (show (13 : Nat) ≠ 0 by decide) hl_IAE hc_IAE (fun qq => ?_)
      refine z_astore g dL_part_14 (by rw [hN]; decide) ?_
      refine z_iconst (v := 2) g dL_part_16 (by decide) ?_
      exact z_iret g hrt (by decide) (by decide) (by decide) dL_part_17 ⟨by rw [e1], agr.rf, B, by rw [e1, opS_2]; exact RX_wi0 2 hX⟩
    · refine zx_catch g hhh (tableOf [(0, 7, 10, 21), (0, 7, 14, 13)]) ⟨0, 7, 18, 15⟩ (tableOf []) rfl (fun z hz => by
        simp only [tableOf, List.map, List.mem_cons, List.not_mem_nil, or_false] at hz
        rcases hz with rfl | rfl
        · exact Or.inr ⟨(by decide : (21 : Nat) ≠ 0), IOE, hl_IOE, nc_ISE_IOE⟩
        · exact Or.inr ⟨(by decide : (13 : Nat) ≠ 0), IAE, hl_IAE, nc_ISE_IAE⟩) (by decide) (show (15 : Nat) ≠ 0 by decide) hl_ISE hc_ISE (fun qq => ?_)
      refine z_astore g dL_part_18 (by rw [hN]; decide) ?_
      refine z_iconst (v := 3) g dL_part_20 (by decide) ?_
      exact z_iret g hrt (by decide) (by decide) (by decide) dL_part_21 ⟨by rw [e2], agr.rf, B, by rw [e2, opS_3]; exact RX_wi0 3 hX⟩
  obtain ⟨hc0, rfl, g1, B2, hX2⟩ := h_9
  have hV2 := I_Part hV hc0
  refine z_goto (tgt := 22) g dL_part_7 (by decide) ?_
  refine z_iconst (v := 0) g dL_part_22 (by decide) ?_
  exact z_iret g hrt (by decide) (by decide) (by decide) dL_part_23 ⟨by rw [hc0], g1.mono (fun c k z => Or.inl z), B2, by rw [hc0, opS_0]; exact hX2⟩
set_option maxHeartbeats 4000000 in
set_option maxRecDepth 100000 in
theorem w_end (E : Ev) {B : Nat → Nat → Nat} {x : Nat} {S : Ms} (M : Mm) (hX : RX B x S M) (hV : INV S) (f : Int32) (i : Int32) (d : Int32) : CTH E yL_end cL_end 5 (some .int) [(0, 7, 10, 21), (0, 7, 14, 13), (0, 7, 18, 15)] 11 16 500 [.ref x, .int f, .int i, .int d] M (fun r M' => r = some (.int (cEnd S f i d)) ∧ agr TL M M' ∧ ∃ B', RX B' x (opS (cEnd S f i d) S (sEnd S f i d)) M') noX := by
  refine CTH.of rfl (Nat.le_of_ble_eq_true rfl) (fun X g hrt hhh hE hN hR => ?_)
  subst hE
  have k11 : kd M x % 1000 = 11 := by rw [hX.1.1]
  refine z_aload_n g dL_end_0 rfl ?_
  refine z_iload_n g dL_end_1 rfl ?_
  refine z_iload_n g dL_end_2 rfl ?_
  refine z_iload_n g dL_end_3 rfl ?_
  refine z_callV g _ _ cv_L_27 (k_end _ M hX hV f i d) k11 (by decide) rfl (by rw [hR]; decide) (by rw [hR]; decide) (by rw [hR]; decide) (Nat.le_of_ble_eq_true rfl) rfl dL_end_4 (fun E9 M9 h9 => ?_) (fun r_9 M1 h_9 => ?_)
  · obtain ⟨rfl, h9⟩ := h9
    rcases h9 with ⟨e0, rfl⟩ | ⟨e1, rfl⟩ | ⟨e2, rfl⟩
    · refine zx_catch g hhh (tableOf []) ⟨0, 7, 10, 21⟩ (tableOf [(0, 7, 14, 13), (0, 7, 18, 15)]) rfl (fun z hz => nomatch hz) (by decide) (show (21 : Nat) ≠ 0 by decide) hl_IOE hc_IOE (fun qq => ?_)
      refine z_astore g dL_end_10 (by rw [hN]; decide) ?_
      refine z_iconst (v := 1) g dL_end_12 (by decide) ?_
      exact z_iret g hrt (by decide) (by decide) (by decide) dL_end_13 ⟨by rw [e0], agr.rf, B, by rw [e0, opS_1]; exact RX_wi0 1 hX⟩
    · refine zx_catch g hhh (tableOf [(0, 7, 10, 21)]) ⟨0, 7, 14, 13⟩ (tableOf [(0, 7, 18, 15)]) rfl (fun z hz => by
        simp only [tableOf, List.map, List.mem_cons, List.not_mem_nil, or_false] at hz
        subst hz
        · exact Or.inr ⟨(by decide : (21 : Nat) ≠ 0), IOE, hl_IOE, nc_IAE_IOE⟩) (by decide) (show (13 : Nat) ≠ 0 by decide) hl_IAE hc_IAE (fun qq => ?_)
      refine z_astore g dL_end_14 (by rw [hN]; decide) ?_
      refine z_iconst (v := 2) g dL_end_16 (by decide) ?_
      exact z_iret g hrt (by decide) (by decide) (by decide) dL_end_17 ⟨by rw [e1], agr.rf, B, by rw [e1, opS_2]; exact RX_wi0 2 hX⟩
    · refine zx_catch g hhh (tableOf [(0, 7, 10, 21), (0, 7, 14, 13)]) ⟨0, 7, 18, 15⟩ (tableOf []) rfl (fun z hz => by
        simp only [tableOf, List.map, List.mem_cons, List.not_mem_nil, or_false] at hz
        rcases hz with rfl | rfl
        · exact Or.inr ⟨(by decide : (21 : Nat) ≠ 0), IOE, hl_IOE, nc_ISE_IOE⟩
        · exact Or.inr ⟨(by decide : (13 : Nat) ≠ 0), IAE, hl_IAE, nc_ISE_IAE⟩) (by decide) (show (15 : Nat) ≠ 0 by decide) hl_ISE hc_ISE (fun qq => ?_)
      refine z_astore g dL_end_18 (by rw [hN]; decide) ?_
      refine z_iconst (v := 3) g dL_end_20 (by decide) ?_
      exact z_iret g hrt (by decide) (by decide) (by decide) dL_end_21 ⟨by rw [e2], agr.rf, B, by rw [e2, opS_3]; exact RX_wi0 3 hX⟩
  obtain ⟨hc0, rfl, g1, B2, hX2⟩ := h_9
  have hV2 := I_End hV hc0
  refine z_goto (tgt := 22) g dL_end_7 (by decide) ?_
  refine z_iconst (v := 0) g dL_end_22 (by decide) ?_
  exact z_iret g hrt (by decide) (by decide) (by decide) dL_end_23 ⟨by rw [hc0], g1.mono (fun c k z => Or.inl z), B2, by rw [hc0, opS_0]; exact hX2⟩
set_option maxHeartbeats 4000000 in
set_option maxRecDepth 100000 in
theorem w_of (E : Ev) {B : Nat → Nat → Nat} {x : Nat} {S : Ms} (M : Mm) (hX : RX B x S M) (hV : INV S) (o : Nat) (ko : kd M o = 290) (lo1 : ln M o = 1) (f : Int32) (w : Int32) (d : Int32) (k : Int32) : CTH E yL_of cL_of 7 (some .int) [(0, 14, 17, 21), (0, 14, 21, 13)] 11 16 500 [.ref x, .int f, .int w, .int d, .int k, .ref o] M (fun r M' => r = some (.int (cOf S f w d k)) ∧ (cOf S f w d k = 0 → fL M' o 0 = (vOf S f w d k).toInt64) ∧ agr TL M M' ∧ ∃ B', RX B' x (opS (cOf S f w d k) S (sOf S f w d k)) M') noX := by
  refine CTH.of rfl (Nat.le_of_ble_eq_true rfl) (fun X g hrt hhh hE hN hR => ?_)
  subst hE
  have k11 : kd M x % 1000 = 11 := by rw [hX.1.1]
  refine z_aload g dL_of_0 rfl ?_
  refine z_iconst (v := 0) g dL_of_2 (by decide) ?_
  refine z_aload_n g dL_of_3 rfl ?_
  refine z_iload_n g dL_of_4 rfl ?_
  refine z_iload_n g dL_of_5 rfl ?_
  refine z_iload_n g dL_of_6 rfl ?_
  refine z_iload g dL_of_7 rfl ?_
  refine z_callV g _ _ cv_L_30 (k_of _ M hX hV f w d k) k11 (by decide) rfl (by rw [hR]; decide) (by rw [hR]; decide) (by rw [hR]; decide) (Nat.le_of_ble_eq_true rfl) rfl dL_of_9 (fun E9 M9 h9 => ?_) (fun r_9 M1 h_9 => ?_)
  · obtain ⟨rfl, h9⟩ := h9
    rcases h9 with ⟨e0, rfl⟩ | ⟨e1, rfl⟩
    · refine zx_catch g hhh (tableOf []) ⟨0, 14, 17, 21⟩ (tableOf [(0, 14, 21, 13)]) rfl (fun z hz => nomatch hz) (by decide) (show (21 : Nat) ≠ 0 by decide) hl_IOE hc_IOE (fun qq => ?_)
      refine z_astore g dL_of_17 (by rw [hN]; decide) ?_
      refine z_iconst (v := 1) g dL_of_19 (by decide) ?_
      exact z_iret g hrt (by decide) (by decide) (by decide) dL_of_20 ⟨by rw [e0], fun z => absurd (e0.symm.trans z) (by decide), agr.rf, B, by rw [e0, opS_1]; exact RX_wi0 1 hX⟩
    · refine zx_catch g hhh (tableOf [(0, 14, 17, 21)]) ⟨0, 14, 21, 13⟩ (tableOf []) rfl (fun z hz => by
        simp only [tableOf, List.map, List.mem_cons, List.not_mem_nil, or_false] at hz
        subst hz
        · exact Or.inr ⟨(by decide : (21 : Nat) ≠ 0), IOE, hl_IOE, nc_IAE_IOE⟩) (by decide) (show (13 : Nat) ≠ 0 by decide) hl_IAE hc_IAE (fun qq => ?_)
      refine z_astore g dL_of_21 (by rw [hN]; decide) ?_
      refine z_iconst (v := 2) g dL_of_23 (by decide) ?_
      exact z_iret g hrt (by decide) (by decide) (by decide) dL_of_24 ⟨by rw [e1], fun z => absurd (e1.symm.trans z) (by decide), agr.rf, B, by rw [e1, opS_2]; exact RX_wi0 2 hX⟩
  obtain ⟨hc0, rfl, g1, B2, hX2⟩ := h_9
  have hV2 := I_Of hV hc0
  obtain ⟨k1, l1⟩ := o_kl ko lo1 g1
  refine z_i2l g dL_of_12 ?_
  refine z_lastk (k := 290) g k1 (by decide) (by rw [l1]; exact in01) dL_of_13 ?_
  rw [show (0 : Int32).toNatClampNeg = 0 from rfl]
  have hO := put_o (v := (vOf S f w d k).toInt64) ko g1 hX2 hV2
  refine z_goto (tgt := 25) g dL_of_14 (by decide) ?_
  refine z_iconst (v := 0) g dL_of_25 (by decide) ?_
  exact z_iret g hrt (by decide) (by decide) (by decide) dL_of_26 ⟨by rw [hc0], fun _ => fL_s, hO.1, B2, by rw [hc0, opS_0]; exact hO.2⟩
set_option maxHeartbeats 4000000 in
set_option maxRecDepth 100000 in
theorem w_name (E : Ev) {B : Nat → Nat → Nat} {x : Nat} {S : Ms} (M : Mm) (hX : RX B x S M) (hV : INV S) (o : Nat) (ko : kd M o = 290) (lo1 : ln M o = 1) (f : Int32) (t : Int32) (w : Int64) (d : Int32) : CTH E yL_name cL_name 8 (some .int) [(0, 14, 17, 21), (0, 14, 21, 13), (0, 14, 25, 15)] 11 16 500 [.ref x, .int f, .int t, .long w, .int d, .ref o] M (fun r M' => r = some (.int (cName S f t w d)) ∧ (cName S f t w d = 0 → fL M' o 0 = (vName S f t w d).toInt64) ∧ agr TL M M' ∧ ∃ B', RX B' x (opS (cName S f t w d) S (sName S f t w d)) M') noX := by
  refine CTH.of rfl (Nat.le_of_ble_eq_true rfl) (fun X g hrt hhh hE hN hR => ?_)
  subst hE
  have k11 : kd M x % 1000 = 11 := by rw [hX.1.1]
  refine z_aload g dL_name_0 rfl ?_
  refine z_iconst (v := 0) g dL_name_2 (by decide) ?_
  refine z_aload_n g dL_name_3 rfl ?_
  refine z_iload_n g dL_name_4 rfl ?_
  refine z_iload_n g dL_name_5 rfl ?_
  refine z_lload_n g dL_name_6 rfl ?_
  refine z_iload g dL_name_7 rfl ?_
  refine z_callV g _ _ cv_L_34 (k_name _ M hX hV f t w d) k11 (by decide) rfl (by rw [hR]; decide) (by rw [hR]; decide) (by rw [hR]; decide) (Nat.le_of_ble_eq_true rfl) rfl dL_name_9 (fun E9 M9 h9 => ?_) (fun r_9 M1 h_9 => ?_)
  · obtain ⟨rfl, h9⟩ := h9
    rcases h9 with ⟨e0, rfl⟩ | ⟨e1, rfl⟩ | ⟨e2, rfl⟩
    · refine zx_catch g hhh (tableOf []) ⟨0, 14, 17, 21⟩ (tableOf [(0, 14, 21, 13), (0, 14, 25, 15)]) rfl (fun z hz => nomatch hz) (by decide) (show (21 : Nat) ≠ 0 by decide) hl_IOE hc_IOE (fun qq => ?_)
      refine z_astore g dL_name_17 (by rw [hN]; decide) ?_
      refine z_iconst (v := 1) g dL_name_19 (by decide) ?_
      exact z_iret g hrt (by decide) (by decide) (by decide) dL_name_20 ⟨by rw [e0], fun z => absurd (e0.symm.trans z) (by decide), agr.rf, B, by rw [e0, opS_1]; exact RX_wi0 1 hX⟩
    · refine zx_catch g hhh (tableOf [(0, 14, 17, 21)]) ⟨0, 14, 21, 13⟩ (tableOf [(0, 14, 25, 15)]) rfl (fun z hz => by
        simp only [tableOf, List.map, List.mem_cons, List.not_mem_nil, or_false] at hz
        subst hz
        · exact Or.inr ⟨(by decide : (21 : Nat) ≠ 0), IOE, hl_IOE, nc_IAE_IOE⟩) (by decide) (show (13 : Nat) ≠ 0 by decide) hl_IAE hc_IAE (fun qq => ?_)
      refine z_astore g dL_name_21 (by rw [hN]; decide) ?_
      refine z_iconst (v := 2) g dL_name_23 (by decide) ?_
      exact z_iret g hrt (by decide) (by decide) (by decide) dL_name_24 ⟨by rw [e1], fun z => absurd (e1.symm.trans z) (by decide), agr.rf, B, by rw [e1, opS_2]; exact RX_wi0 2 hX⟩
    · refine zx_catch g hhh (tableOf [(0, 14, 17, 21), (0, 14, 21, 13)]) ⟨0, 14, 25, 15⟩ (tableOf []) rfl (fun z hz => by
        simp only [tableOf, List.map, List.mem_cons, List.not_mem_nil, or_false] at hz
        rcases hz with rfl | rfl
        · exact Or.inr ⟨(by decide : (21 : Nat) ≠ 0), IOE, hl_IOE, nc_ISE_IOE⟩
        · exact Or.inr ⟨(by decide : (13 : Nat) ≠ 0), IAE, hl_IAE, nc_ISE_IAE⟩) (by decide) (show (15 : Nat) ≠ 0 by decide) hl_ISE hc_ISE (fun qq => ?_)
      refine z_astore g dL_name_25 (by rw [hN]; decide) ?_
      refine z_iconst (v := 3) g dL_name_27 (by decide) ?_
      exact z_iret g hrt (by decide) (by decide) (by decide) dL_name_28 ⟨by rw [e2], fun z => absurd (e2.symm.trans z) (by decide), agr.rf, B, by rw [e2, opS_3]; exact RX_wi0 3 hX⟩
  obtain ⟨hc0, rfl, g1, B2, hX2⟩ := h_9
  have hV2 := I_Name hV hc0
  obtain ⟨k1, l1⟩ := o_kl ko lo1 g1
  refine z_i2l g dL_name_12 ?_
  refine z_lastk (k := 290) g k1 (by decide) (by rw [l1]; exact in01) dL_name_13 ?_
  rw [show (0 : Int32).toNatClampNeg = 0 from rfl]
  have hO := put_o (v := (vName S f t w d).toInt64) ko g1 hX2 hV2
  refine z_goto (tgt := 29) g dL_name_14 (by decide) ?_
  refine z_iconst (v := 0) g dL_name_29 (by decide) ?_
  exact z_iret g hrt (by decide) (by decide) (by decide) dL_name_30 ⟨by rw [hc0], fun _ => fL_s, hO.1, B2, by rw [hc0, opS_0]; exact hO.2⟩
set_option maxHeartbeats 4000000 in
set_option maxRecDepth 100000 in
theorem w_law (E : Ev) {B : Nat → Nat → Nat} {x : Nat} {S : Ms} (M : Mm) (hX : RX B x S M) (hV : INV S) (o : Nat) (ko : kd M o = 290) (lo1 : ln M o = 1) (t : Int32) (d : Int32) (l : Int32) (p : Int32) (q : Int32) : CTH E yL_law cL_law 8 (some .int) [(0, 16, 19, 21), (0, 16, 23, 13), (0, 16, 27, 15)] 11 16 500 [.ref x, .int t, .int d, .int l, .int p, .int q, .ref o] M (fun r M' => r = some (.int (cLawc S t d l p q)) ∧ (cLawc S t d l p q = 0 → fL M' o 0 = (vLawc S t d l p q).toInt64) ∧ agr TL M M' ∧ ∃ B', RX B' x (opS (cLawc S t d l p q) S (sLawc S t d l p q)) M') noX := by
  refine CTH.of rfl (Nat.le_of_ble_eq_true rfl) (fun X g hrt hhh hE hN hR => ?_)
  subst hE
  have k11 : kd M x % 1000 = 11 := by rw [hX.1.1]
  refine z_aload g dL_law_0 rfl ?_
  refine z_iconst (v := 0) g dL_law_2 (by decide) ?_
  refine z_aload_n g dL_law_3 rfl ?_
  refine z_iload_n g dL_law_4 rfl ?_
  refine z_iload_n g dL_law_5 rfl ?_
  refine z_iload_n g dL_law_6 rfl ?_
  refine z_iload g dL_law_7 rfl ?_
  refine z_iload g dL_law_9 rfl ?_
  refine z_callV g _ _ cv_L_38 (k_law _ M hX hV t d l p q) k11 (by decide) rfl (by rw [hR]; decide) (by rw [hR]; decide) (by rw [hR]; decide) (Nat.le_of_ble_eq_true rfl) rfl dL_law_11 (fun E9 M9 h9 => ?_) (fun r_9 M1 h_9 => ?_)
  · obtain ⟨rfl, h9⟩ := h9
    rcases h9 with ⟨e0, rfl⟩ | ⟨e1, rfl⟩ | ⟨e2, rfl⟩
    · refine zx_catch g hhh (tableOf []) ⟨0, 16, 19, 21⟩ (tableOf [(0, 16, 23, 13), (0, 16, 27, 15)]) rfl (fun z hz => nomatch hz) (by decide) (show (21 : Nat) ≠ 0 by decide) hl_IOE hc_IOE (fun qq => ?_)
      refine z_astore g dL_law_19 (by rw [hN]; decide) ?_
      refine z_iconst (v := 1) g dL_law_21 (by decide) ?_
      exact z_iret g hrt (by decide) (by decide) (by decide) dL_law_22 ⟨by rw [e0], fun z => absurd (e0.symm.trans z) (by decide), agr.rf, B, by rw [e0, opS_1]; exact RX_wi0 1 hX⟩
    · refine zx_catch g hhh (tableOf [(0, 16, 19, 21)]) ⟨0, 16, 23, 13⟩ (tableOf [(0, 16, 27, 15)]) rfl (fun z hz => by
        simp only [tableOf, List.map, List.mem_cons, List.not_mem_nil, or_false] at hz
        subst hz
        · exact Or.inr ⟨(by decide : (21 : Nat) ≠ 0), IOE, hl_IOE, nc_IAE_IOE⟩) (by decide) (show (13 : Nat) ≠ 0 by decide) hl_IAE hc_IAE (fun qq => ?_)
      refine z_astore g dL_law_23 (by rw [hN]; decide) ?_
      refine z_iconst (v := 2) g dL_law_25 (by decide) ?_
      exact z_iret g hrt (by decide) (by decide) (by decide) dL_law_26 ⟨by rw [e1], fun z => absurd (e1.symm.trans z) (by decide), agr.rf, B, by rw [e1, opS_2]; exact RX_wi0 2 hX⟩
    · refine zx_catch g hhh (tableOf [(0, 16, 19, 21), (0, 16, 23, 13)]) ⟨0, 16, 27, 15⟩ (tableOf []) rfl (fun z hz => by
        simp only [tableOf, List.map, List.mem_cons, List.not_mem_nil, or_false] at hz
        rcases hz with rfl | rfl
        · exact Or.inr ⟨(by decide : (21 : Nat) ≠ 0), IOE, hl_IOE, nc_ISE_IOE⟩
        · exact Or.inr ⟨(by decide : (13 : Nat) ≠ 0), IAE, hl_IAE, nc_ISE_IAE⟩) (by decide) (show (15 : Nat) ≠ 0 by decide) hl_ISE hc_ISE (fun qq => ?_)
      refine z_astore g dL_law_27 (by rw [hN]; decide) ?_
      refine z_iconst (v := 3) g dL_law_29 (by decide) ?_
      exact z_iret g hrt (by decide) (by decide) (by decide) dL_law_30 ⟨by rw [e2], fun z => absurd (e2.symm.trans z) (by decide), agr.rf, B, by rw [e2, opS_3]; exact RX_wi0 3 hX⟩
  obtain ⟨hc0, rfl, g1, B2, hX2⟩ := h_9
  have hV2 := I_Lawc hV hc0
  obtain ⟨k1, l1⟩ := o_kl ko lo1 g1
  refine z_i2l g dL_law_14 ?_
  refine z_lastk (k := 290) g k1 (by decide) (by rw [l1]; exact in01) dL_law_15 ?_
  rw [show (0 : Int32).toNatClampNeg = 0 from rfl]
  have hO := put_o (v := (vLawc S t d l p q).toInt64) ko g1 hX2 hV2
  refine z_goto (tgt := 31) g dL_law_16 (by decide) ?_
  refine z_iconst (v := 0) g dL_law_31 (by decide) ?_
  exact z_iret g hrt (by decide) (by decide) (by decide) dL_law_32 ⟨by rw [hc0], fun _ => fL_s, hO.1, B2, by rw [hc0, opS_0]; exact hO.2⟩
set_option maxHeartbeats 4000000 in
set_option maxRecDepth 100000 in
theorem w_except (E : Ev) {B : Nat → Nat → Nat} {x : Nat} {S : Ms} (M : Mm) (hX : RX B x S M) (hV : INV S) (f : Int32) (t : Int32) (d : Int32) : CTH E yL_except cL_except 5 (some .int) [(0, 7, 10, 21), (0, 7, 14, 13), (0, 7, 18, 15)] 11 16 500 [.ref x, .int f, .int t, .int d] M (fun r M' => r = some (.int (cExcept S f t d)) ∧ agr TL M M' ∧ ∃ B', RX B' x (opS (cExcept S f t d) S (sExcept S f t d)) M') noX := by
  refine CTH.of rfl (Nat.le_of_ble_eq_true rfl) (fun X g hrt hhh hE hN hR => ?_)
  subst hE
  have k11 : kd M x % 1000 = 11 := by rw [hX.1.1]
  refine z_aload_n g dL_except_0 rfl ?_
  refine z_iload_n g dL_except_1 rfl ?_
  refine z_iload_n g dL_except_2 rfl ?_
  refine z_iload_n g dL_except_3 rfl ?_
  refine z_callV g _ _ cv_L_42 (k_except _ M hX hV f t d) k11 (by decide) rfl (by rw [hR]; decide) (by rw [hR]; decide) (by rw [hR]; decide) (Nat.le_of_ble_eq_true rfl) rfl dL_except_4 (fun E9 M9 h9 => ?_) (fun r_9 M1 h_9 => ?_)
  · obtain ⟨rfl, h9⟩ := h9
    rcases h9 with ⟨e0, rfl⟩ | ⟨e1, rfl⟩ | ⟨e2, rfl⟩
    · refine zx_catch g hhh (tableOf []) ⟨0, 7, 10, 21⟩ (tableOf [(0, 7, 14, 13), (0, 7, 18, 15)]) rfl (fun z hz => nomatch hz) (by decide) (show (21 : Nat) ≠ 0 by decide) hl_IOE hc_IOE (fun qq => ?_)
      refine z_astore g dL_except_10 (by rw [hN]; decide) ?_
      refine z_iconst (v := 1) g dL_except_12 (by decide) ?_
      exact z_iret g hrt (by decide) (by decide) (by decide) dL_except_13 ⟨by rw [e0], agr.rf, B, by rw [e0, opS_1]; exact RX_wi0 1 hX⟩
    · refine zx_catch g hhh (tableOf [(0, 7, 10, 21)]) ⟨0, 7, 14, 13⟩ (tableOf [(0, 7, 18, 15)]) rfl (fun z hz => by
        simp only [tableOf, List.map, List.mem_cons, List.not_mem_nil, or_false] at hz
        subst hz
        · exact Or.inr ⟨(by decide : (21 : Nat) ≠ 0), IOE, hl_IOE, nc_IAE_IOE⟩) (by decide) (show (13 : Nat) ≠ 0 by decide) hl_IAE hc_IAE (fun qq => ?_)
      refine z_astore g dL_except_14 (by rw [hN]; decide) ?_
      refine z_iconst (v := 2) g dL_except_16 (by decide) ?_
      exact z_iret g hrt (by decide) (by decide) (by decide) dL_except_17 ⟨by rw [e1], agr.rf, B, by rw [e1, opS_2]; exact RX_wi0 2 hX⟩
    · refine zx_catch g hhh (tableOf [(0, 7, 10, 21), (0, 7, 14, 13)]) ⟨0, 7, 18, 15⟩ (tableOf []) rfl (fun z hz => by
        simp only [tableOf, List.map, List.mem_cons, List.not_mem_nil, or_false] at hz
        rcases hz with rfl | rfl
        · exact Or.inr ⟨(by decide : (21 : Nat) ≠ 0), IOE, hl_IOE, nc_ISE_IOE⟩
        · exact Or.inr ⟨(by decide : (13 : Nat) ≠ 0), IAE, hl_IAE, nc_ISE_IAE⟩) (by decide) (show (15 : Nat) ≠ 0 by decide) hl_ISE hc_ISE (fun qq => ?_)
      refine z_astore g dL_except_18 (by rw [hN]; decide) ?_
      refine z_iconst (v := 3) g dL_except_20 (by decide) ?_
      exact z_iret g hrt (by decide) (by decide) (by decide) dL_except_21 ⟨by rw [e2], agr.rf, B, by rw [e2, opS_3]; exact RX_wi0 3 hX⟩
  obtain ⟨hc0, rfl, g1, B2, hX2⟩ := h_9
  have hV2 := I_Except hV hc0
  refine z_goto (tgt := 22) g dL_except_7 (by decide) ?_
  refine z_iconst (v := 0) g dL_except_22 (by decide) ?_
  exact z_iret g hrt (by decide) (by decide) (by decide) dL_except_23 ⟨by rw [hc0], g1.mono (fun c k z => Or.inl z), B2, by rw [hc0, opS_0]; exact hX2⟩
set_option maxHeartbeats 4000000 in
set_option maxRecDepth 100000 in
theorem w_form (E : Ev) {B : Nat → Nat → Nat} {x : Nat} {S : Ms} (M : Mm) (hX : RX B x S M) (hV : INV S) (o : Nat) (ko : kd M o = 290) (lo1 : ln M o = 1) (f : Int32) (t : Int32) (d : Int32) (k : Int32) : CTH E yL_form cL_form 7 (some .int) [(0, 13, 16, 21), (0, 13, 20, 13)] 11 16 500 [.ref x, .int f, .int t, .int d, .int k, .ref o] M (fun r M' => r = some (.int (cForm S f t d k)) ∧ (cForm S f t d k = 0 → fL M' o 0 = vForm S f t d k) ∧ agr TL M M' ∧ ∃ B', RX B' x (opS (cForm S f t d k) S (sForm S f t d k)) M') noX := by
  refine CTH.of rfl (Nat.le_of_ble_eq_true rfl) (fun X g hrt hhh hE hN hR => ?_)
  subst hE
  have k11 : kd M x % 1000 = 11 := by rw [hX.1.1]
  refine z_aload g dL_form_0 rfl ?_
  refine z_iconst (v := 0) g dL_form_2 (by decide) ?_
  refine z_aload_n g dL_form_3 rfl ?_
  refine z_iload_n g dL_form_4 rfl ?_
  refine z_iload_n g dL_form_5 rfl ?_
  refine z_iload_n g dL_form_6 rfl ?_
  refine z_iload g dL_form_7 rfl ?_
  refine z_callV g _ _ cv_L_45 (k_callForm _ M hX hV f t d k) k11 (by decide) rfl (by rw [hR]; decide) (by rw [hR]; decide) (by rw [hR]; decide) (Nat.le_of_ble_eq_true rfl) rfl dL_form_9 (fun E9 M9 h9 => ?_) (fun r_9 M1 h_9 => ?_)
  · obtain ⟨rfl, h9⟩ := h9
    rcases h9 with ⟨e0, rfl⟩ | ⟨e1, rfl⟩
    · refine zx_catch g hhh (tableOf []) ⟨0, 13, 16, 21⟩ (tableOf [(0, 13, 20, 13)]) rfl (fun z hz => nomatch hz) (by decide) (show (21 : Nat) ≠ 0 by decide) hl_IOE hc_IOE (fun qq => ?_)
      refine z_astore g dL_form_16 (by rw [hN]; decide) ?_
      refine z_iconst (v := 1) g dL_form_18 (by decide) ?_
      exact z_iret g hrt (by decide) (by decide) (by decide) dL_form_19 ⟨by rw [e0], fun z => absurd (e0.symm.trans z) (by decide), agr.rf, B, by rw [e0, opS_1]; exact RX_wi0 1 hX⟩
    · refine zx_catch g hhh (tableOf [(0, 13, 16, 21)]) ⟨0, 13, 20, 13⟩ (tableOf []) rfl (fun z hz => by
        simp only [tableOf, List.map, List.mem_cons, List.not_mem_nil, or_false] at hz
        subst hz
        · exact Or.inr ⟨(by decide : (21 : Nat) ≠ 0), IOE, hl_IOE, nc_IAE_IOE⟩) (by decide) (show (13 : Nat) ≠ 0 by decide) hl_IAE hc_IAE (fun qq => ?_)
      refine z_astore g dL_form_20 (by rw [hN]; decide) ?_
      refine z_iconst (v := 2) g dL_form_22 (by decide) ?_
      exact z_iret g hrt (by decide) (by decide) (by decide) dL_form_23 ⟨by rw [e1], fun z => absurd (e1.symm.trans z) (by decide), agr.rf, B, by rw [e1, opS_2]; exact RX_wi0 2 hX⟩
  obtain ⟨hc0, rfl, g1, B2, hX2⟩ := h_9
  have hV2 := I_Form hV hc0
  obtain ⟨k1, l1⟩ := o_kl ko lo1 g1
  refine z_lastk (k := 290) g k1 (by decide) (by rw [l1]; exact in01) dL_form_12 ?_
  rw [show (0 : Int32).toNatClampNeg = 0 from rfl]
  have hO := put_o (v := vForm S f t d k) ko g1 hX2 hV2
  refine z_goto (tgt := 24) g dL_form_13 (by decide) ?_
  refine z_iconst (v := 0) g dL_form_24 (by decide) ?_
  exact z_iret g hrt (by decide) (by decide) (by decide) dL_form_25 ⟨by rw [hc0], fun _ => fL_s, hO.1, B2, by rw [hc0, opS_0]; exact hO.2⟩
set_option maxHeartbeats 4000000 in
set_option maxRecDepth 100000 in
theorem w_petition (E : Ev) {B : Nat → Nat → Nat} {x : Nat} {S : Ms} (M : Mm) (hX : RX B x S M) (hV : INV S) (o : Nat) (ko : kd M o = 290) (lo1 : ln M o = 1) (f : Int32) (t : Int32) (w : Int64) (d : Int32) : CTH E yL_petition cL_petition 8 (some .int) [(0, 14, 17, 21), (0, 14, 21, 13), (0, 14, 25, 15)] 11 16 500 [.ref x, .int f, .int t, .long w, .int d, .ref o] M (fun r M' => r = some (.int (cPetition S f t w d)) ∧ (cPetition S f t w d = 0 → fL M' o 0 = (vPetition S f t w d).toInt64) ∧ agr TL M M' ∧ ∃ B', RX B' x (opS (cPetition S f t w d) S (sPetition S f t w d)) M') noX := by
  refine CTH.of rfl (Nat.le_of_ble_eq_true rfl) (fun X g hrt hhh hE hN hR => ?_)
  subst hE
  have k11 : kd M x % 1000 = 11 := by rw [hX.1.1]
  refine z_aload g dL_petition_0 rfl ?_
  refine z_iconst (v := 0) g dL_petition_2 (by decide) ?_
  refine z_aload_n g dL_petition_3 rfl ?_
  refine z_iload_n g dL_petition_4 rfl ?_
  refine z_iload_n g dL_petition_5 rfl ?_
  refine z_lload_n g dL_petition_6 rfl ?_
  refine z_iload g dL_petition_7 rfl ?_
  refine z_callV g _ _ cv_L_49 (k_petition _ M hX hV f t w d) k11 (by decide) rfl (by rw [hR]; decide) (by rw [hR]; decide) (by rw [hR]; decide) (Nat.le_of_ble_eq_true rfl) rfl dL_petition_9 (fun E9 M9 h9 => ?_) (fun r_9 M1 h_9 => ?_)
  · obtain ⟨rfl, h9⟩ := h9
    rcases h9 with ⟨e0, rfl⟩ | ⟨e1, rfl⟩ | ⟨e2, rfl⟩
    · refine zx_catch g hhh (tableOf []) ⟨0, 14, 17, 21⟩ (tableOf [(0, 14, 21, 13), (0, 14, 25, 15)]) rfl (fun z hz => nomatch hz) (by decide) (show (21 : Nat) ≠ 0 by decide) hl_IOE hc_IOE (fun qq => ?_)
      refine z_astore g dL_petition_17 (by rw [hN]; decide) ?_
      refine z_iconst (v := 1) g dL_petition_19 (by decide) ?_
      exact z_iret g hrt (by decide) (by decide) (by decide) dL_petition_20 ⟨by rw [e0], fun z => absurd (e0.symm.trans z) (by decide), agr.rf, B, by rw [e0, opS_1]; exact RX_wi0 1 hX⟩
    · refine zx_catch g hhh (tableOf [(0, 14, 17, 21)]) ⟨0, 14, 21, 13⟩ (tableOf [(0, 14, 25, 15)]) rfl (fun z hz => by
        simp only [tableOf, List.map, List.mem_cons, List.not_mem_nil, or_false] at hz
        subst hz
        · exact Or.inr ⟨(by decide : (21 : Nat) ≠ 0), IOE, hl_IOE, nc_IAE_IOE⟩) (by decide) (show (13 : Nat) ≠ 0 by decide) hl_IAE hc_IAE (fun qq => ?_)
      refine z_astore g dL_petition_21 (by rw [hN]; decide) ?_
      refine z_iconst (v := 2) g dL_petition_23 (by decide) ?_
      exact z_iret g hrt (by decide) (by decide) (by decide) dL_petition_24 ⟨by rw [e1], fun z => absurd (e1.symm.trans z) (by decide), agr.rf, B, by rw [e1, opS_2]; exact RX_wi0 2 hX⟩
    · refine zx_catch g hhh (tableOf [(0, 14, 17, 21), (0, 14, 21, 13)]) ⟨0, 14, 25, 15⟩ (tableOf []) rfl (fun z hz => by
        simp only [tableOf, List.map, List.mem_cons, List.not_mem_nil, or_false] at hz
        rcases hz with rfl | rfl
        · exact Or.inr ⟨(by decide : (21 : Nat) ≠ 0), IOE, hl_IOE, nc_ISE_IOE⟩
        · exact Or.inr ⟨(by decide : (13 : Nat) ≠ 0), IAE, hl_IAE, nc_ISE_IAE⟩) (by decide) (show (15 : Nat) ≠ 0 by decide) hl_ISE hc_ISE (fun qq => ?_)
      refine z_astore g dL_petition_25 (by rw [hN]; decide) ?_
      refine z_iconst (v := 3) g dL_petition_27 (by decide) ?_
      exact z_iret g hrt (by decide) (by decide) (by decide) dL_petition_28 ⟨by rw [e2], fun z => absurd (e2.symm.trans z) (by decide), agr.rf, B, by rw [e2, opS_3]; exact RX_wi0 3 hX⟩
  obtain ⟨hc0, rfl, g1, B2, hX2⟩ := h_9
  have hV2 := I_Petition hV hc0
  obtain ⟨k1, l1⟩ := o_kl ko lo1 g1
  refine z_i2l g dL_petition_12 ?_
  refine z_lastk (k := 290) g k1 (by decide) (by rw [l1]; exact in01) dL_petition_13 ?_
  rw [show (0 : Int32).toNatClampNeg = 0 from rfl]
  have hO := put_o (v := (vPetition S f t w d).toInt64) ko g1 hX2 hV2
  refine z_goto (tgt := 29) g dL_petition_14 (by decide) ?_
  refine z_iconst (v := 0) g dL_petition_29 (by decide) ?_
  exact z_iret g hrt (by decide) (by decide) (by decide) dL_petition_30 ⟨by rw [hc0], fun _ => fL_s, hO.1, B2, by rw [hc0, opS_0]; exact hO.2⟩
set_option maxHeartbeats 4000000 in
set_option maxRecDepth 100000 in
theorem w_vote (E : Ev) {B : Nat → Nat → Nat} {x : Nat} {S : Ms} (M : Mm) (hX : RX B x S M) (hV : INV S) (o : Nat) (ko : kd M o = 290) (lo1 : ln M o = 1) (f : Int32) (c : Int32) (b : Int32) : CTH E yL_vote cL_vote 6 (some .int) [(0, 12, 15, 21), (0, 12, 19, 15)] 11 16 500 [.ref x, .int f, .int c, .int b, .ref o] M (fun r M' => r = some (.int (cVote S f c b)) ∧ (cVote S f c b = 0 → fL M' o 0 = (vVote S f c b).toInt64) ∧ agr TL M M' ∧ ∃ B', RX B' x (opS (cVote S f c b) S (sVote S f c b)) M') noX := by
  refine CTH.of rfl (Nat.le_of_ble_eq_true rfl) (fun X g hrt hhh hE hN hR => ?_)
  subst hE
  have k11 : kd M x % 1000 = 11 := by rw [hX.1.1]
  refine z_aload g dL_vote_0 rfl ?_
  refine z_iconst (v := 0) g dL_vote_2 (by decide) ?_
  refine z_aload_n g dL_vote_3 rfl ?_
  refine z_iload_n g dL_vote_4 rfl ?_
  refine z_iload_n g dL_vote_5 rfl ?_
  refine z_iload_n g dL_vote_6 rfl ?_
  refine z_callV g _ _ cv_L_52 (k_vote _ M hX hV f c b) k11 (by decide) rfl (by rw [hR]; decide) (by rw [hR]; decide) (by rw [hR]; decide) (Nat.le_of_ble_eq_true rfl) rfl dL_vote_7 (fun E9 M9 h9 => ?_) (fun r_9 M1 h_9 => ?_)
  · obtain ⟨rfl, h9⟩ := h9
    rcases h9 with ⟨e0, rfl⟩ | ⟨e1, rfl⟩
    · refine zx_catch g hhh (tableOf []) ⟨0, 12, 15, 21⟩ (tableOf [(0, 12, 19, 15)]) rfl (fun z hz => nomatch hz) (by decide) (show (21 : Nat) ≠ 0 by decide) hl_IOE hc_IOE (fun qq => ?_)
      refine z_astore g dL_vote_15 (by rw [hN]; decide) ?_
      refine z_iconst (v := 1) g dL_vote_17 (by decide) ?_
      exact z_iret g hrt (by decide) (by decide) (by decide) dL_vote_18 ⟨by rw [e0], fun z => absurd (e0.symm.trans z) (by decide), agr.rf, B, by rw [e0, opS_1]; exact RX_wi0 1 hX⟩
    · refine zx_catch g hhh (tableOf [(0, 12, 15, 21)]) ⟨0, 12, 19, 15⟩ (tableOf []) rfl (fun z hz => by
        simp only [tableOf, List.map, List.mem_cons, List.not_mem_nil, or_false] at hz
        subst hz
        · exact Or.inr ⟨(by decide : (21 : Nat) ≠ 0), IOE, hl_IOE, nc_ISE_IOE⟩) (by decide) (show (15 : Nat) ≠ 0 by decide) hl_ISE hc_ISE (fun qq => ?_)
      refine z_astore g dL_vote_19 (by rw [hN]; decide) ?_
      refine z_iconst (v := 2) g dL_vote_21 (by decide) ?_
      exact z_iret g hrt (by decide) (by decide) (by decide) dL_vote_22 ⟨by rw [e1], fun z => absurd (e1.symm.trans z) (by decide), agr.rf, B, by rw [e1, opS_2]; exact RX_wi0 2 hX⟩
  obtain ⟨hc0, rfl, g1, B2, hX2⟩ := h_9
  have hV2 := I_Vote hV hc0
  obtain ⟨k1, l1⟩ := o_kl ko lo1 g1
  refine z_i2l g dL_vote_10 ?_
  refine z_lastk (k := 290) g k1 (by decide) (by rw [l1]; exact in01) dL_vote_11 ?_
  rw [show (0 : Int32).toNatClampNeg = 0 from rfl]
  have hO := put_o (v := (vVote S f c b).toInt64) ko g1 hX2 hV2
  refine z_goto (tgt := 23) g dL_vote_12 (by decide) ?_
  refine z_iconst (v := 0) g dL_vote_23 (by decide) ?_
  exact z_iret g hrt (by decide) (by decide) (by decide) dL_vote_24 ⟨by rw [hc0], fun _ => fL_s, hO.1, B2, by rw [hc0, opS_0]; exact hO.2⟩
set_option maxHeartbeats 4000000 in
set_option maxRecDepth 100000 in
theorem w_protest (E : Ev) {B : Nat → Nat → Nat} {x : Nat} {S : Ms} (M : Mm) (hX : RX B x S M) (hV : INV S) (o : Nat) (ko : kd M o = 290) (lo1 : ln M o = 1) (f : Int32) (c : Int32) : CTH E yL_protest cL_protest 5 (some .int) [(0, 17, 20, 21), (0, 17, 24, 15)] 11 16 500 [.ref x, .int f, .int c, .ref o] M (fun r M' => r = some (.int (cProtest S f c)) ∧ (cProtest S f c = 0 → fL M' o 0 = if vProtest S f c = true then 1 else 0) ∧ agr TL M M' ∧ ∃ B', RX B' x (opS (cProtest S f c) S (sProtest S f c)) M') noX := by
  refine CTH.of rfl (Nat.le_of_ble_eq_true rfl) (fun X g hrt hhh hE hN hR => ?_)
  subst hE
  have k11 : kd M x % 1000 = 11 := by rw [hX.1.1]
  refine z_aload_n g dL_protest_0 rfl ?_
  refine z_iconst (v := 0) g dL_protest_1 (by decide) ?_
  refine z_aload_n g dL_protest_2 rfl ?_
  refine z_iload_n g dL_protest_3 rfl ?_
  refine z_iload_n g dL_protest_4 rfl ?_
  refine z_callV g _ _ cv_L_56 (k_protest _ M hX hV f c) k11 (by decide) rfl (by rw [hR]; decide) (by rw [hR]; decide) (by rw [hR]; decide) (Nat.le_of_ble_eq_true rfl) rfl dL_protest_5 (fun E9 M9 h9 => ?_) (fun r_9 M1 h_9 => ?_)
  · obtain ⟨rfl, h9⟩ := h9
    rcases h9 with ⟨e0, rfl⟩ | ⟨e1, rfl⟩
    · refine zx_catch g hhh (tableOf []) ⟨0, 17, 20, 21⟩ (tableOf [(0, 17, 24, 15)]) rfl (fun z hz => nomatch hz) (by decide) (show (21 : Nat) ≠ 0 by decide) hl_IOE hc_IOE (fun qq => ?_)
      refine z_astore g dL_protest_20 (by rw [hN]; decide) ?_
      refine z_iconst (v := 1) g dL_protest_22 (by decide) ?_
      exact z_iret g hrt (by decide) (by decide) (by decide) dL_protest_23 ⟨by rw [e0], fun z => absurd (e0.symm.trans z) (by decide), agr.rf, B, by rw [e0, opS_1]; exact RX_wi0 1 hX⟩
    · refine zx_catch g hhh (tableOf [(0, 17, 20, 21)]) ⟨0, 17, 24, 15⟩ (tableOf []) rfl (fun z hz => by
        simp only [tableOf, List.map, List.mem_cons, List.not_mem_nil, or_false] at hz
        subst hz
        · exact Or.inr ⟨(by decide : (21 : Nat) ≠ 0), IOE, hl_IOE, nc_ISE_IOE⟩) (by decide) (show (15 : Nat) ≠ 0 by decide) hl_ISE hc_ISE (fun qq => ?_)
      refine z_astore g dL_protest_24 (by rw [hN]; decide) ?_
      refine z_iconst (v := 2) g dL_protest_26 (by decide) ?_
      exact z_iret g hrt (by decide) (by decide) (by decide) dL_protest_27 ⟨by rw [e1], fun z => absurd (e1.symm.trans z) (by decide), agr.rf, B, by rw [e1, opS_2]; exact RX_wi0 2 hX⟩
  obtain ⟨hc0, rfl, g1, B2, hX2⟩ := h_9
  have hV2 := I_Protest hV hc0
  obtain ⟨k1, l1⟩ := o_kl ko lo1 g1
  refine z_if_eq (tgt := 15) g dL_protest_8 (by decide) (fun c_8 => ?_) (fun c_8 => ?_)
  · refine z_lconst (v := 0) g dL_protest_15 (by decide) ?_
    refine z_lastk (k := 290) g k1 (by decide) (by rw [l1]; exact in01) dL_protest_16 ?_
    rw [show (0 : Int32).toNatClampNeg = 0 from rfl]
    have hO := put_o (v := 0) ko g1 hX2 hV2
    refine z_goto (tgt := 28) g dL_protest_17 (by decide) ?_
    refine z_iconst (v := 0) g dL_protest_28 (by decide) ?_
    exact z_iret g hrt (by decide) (by decide) (by decide) dL_protest_29 ⟨by rw [hc0], fun _ => by rw [fL_s, b2i_0.mp c_8]; rfl, hO.1, B2, by rw [hc0, opS_0]; exact hO.2⟩
  · refine z_lconst (v := 1) g dL_protest_11 (by decide) ?_
    refine z_goto (tgt := 16) g dL_protest_12 (by decide) ?_
    refine z_lastk (k := 290) g k1 (by decide) (by rw [l1]; exact in01) dL_protest_16 ?_
    rw [show (0 : Int32).toNatClampNeg = 0 from rfl]
    have hO := put_o (v := 1) ko g1 hX2 hV2
    refine z_goto (tgt := 28) g dL_protest_17 (by decide) ?_
    refine z_iconst (v := 0) g dL_protest_28 (by decide) ?_
    exact z_iret g hrt (by decide) (by decide) (by decide) dL_protest_29 ⟨by rw [hc0], fun _ => by rw [fL_s, b2i_n0.mp c_8]; rfl, hO.1, B2, by rw [hc0, opS_0]; exact hO.2⟩
set_option maxHeartbeats 4000000 in
set_option maxRecDepth 100000 in
theorem w_decide (E : Ev) {B : Nat → Nat → Nat} {x : Nat} {S : Ms} (M : Mm) (hX : RX B x S M) (hV : INV S) (o : Nat) (ko : kd M o = 290) (lo1 : ln M o = 1) (f : Int32) : CTH E yL_decide cL_decide 4 (some .int) [(0, 9, 12, 21), (0, 9, 15, 15)] 11 16 500 [.ref x, .int f, .ref o] M (fun r M' => r = some (.int (cDecide S f)) ∧ (cDecide S f = 0 → fL M' o 0 = (vDecide S f).toInt64) ∧ agr TL M M' ∧ ∃ B', RX B' x (opS (cDecide S f) S (sDecide S f)) M') noX := by
  refine CTH.of rfl (Nat.le_of_ble_eq_true rfl) (fun X g hrt hhh hE hN hR => ?_)
  subst hE
  have k11 : kd M x % 1000 = 11 := by rw [hX.1.1]
  refine z_aload_n g dL_decide_0 rfl ?_
  refine z_iconst (v := 0) g dL_decide_1 (by decide) ?_
  refine z_aload_n g dL_decide_2 rfl ?_
  refine z_iload_n g dL_decide_3 rfl ?_
  refine z_callV g _ _ cv_L_60 (k_decide _ M hX hV f) k11 (by decide) rfl (by rw [hR]; decide) (by rw [hR]; decide) (by rw [hR]; decide) (Nat.le_of_ble_eq_true rfl) rfl dL_decide_4 (fun E9 M9 h9 => ?_) (fun r_9 M1 h_9 => ?_)
  · obtain ⟨rfl, h9⟩ := h9
    rcases h9 with ⟨e0, rfl⟩ | ⟨e1, rfl⟩
    · refine zx_catch g hhh (tableOf []) ⟨0, 9, 12, 21⟩ (tableOf [(0, 9, 15, 15)]) rfl (fun z hz => nomatch hz) (by decide) (show (21 : Nat) ≠ 0 by decide) hl_IOE hc_IOE (fun qq => ?_)
      refine z_astore_n g dL_decide_12 (by rw [hN]; decide) ?_
      refine z_iconst (v := 1) g dL_decide_13 (by decide) ?_
      exact z_iret g hrt (by decide) (by decide) (by decide) dL_decide_14 ⟨by rw [e0], fun z => absurd (e0.symm.trans z) (by decide), agr.rf, B, by rw [e0, opS_1]; exact RX_wi0 1 hX⟩
    · refine zx_catch g hhh (tableOf [(0, 9, 12, 21)]) ⟨0, 9, 15, 15⟩ (tableOf []) rfl (fun z hz => by
        simp only [tableOf, List.map, List.mem_cons, List.not_mem_nil, or_false] at hz
        subst hz
        · exact Or.inr ⟨(by decide : (21 : Nat) ≠ 0), IOE, hl_IOE, nc_ISE_IOE⟩) (by decide) (show (15 : Nat) ≠ 0 by decide) hl_ISE hc_ISE (fun qq => ?_)
      refine z_astore_n g dL_decide_15 (by rw [hN]; decide) ?_
      refine z_iconst (v := 2) g dL_decide_16 (by decide) ?_
      exact z_iret g hrt (by decide) (by decide) (by decide) dL_decide_17 ⟨by rw [e1], fun z => absurd (e1.symm.trans z) (by decide), agr.rf, B, by rw [e1, opS_2]; exact RX_wi0 2 hX⟩
  obtain ⟨hc0, rfl, g1, B2, hX2⟩ := h_9
  have hV2 := I_Decide hV hc0
  obtain ⟨k1, l1⟩ := o_kl ko lo1 g1
  refine z_i2l g dL_decide_7 ?_
  refine z_lastk (k := 290) g k1 (by decide) (by rw [l1]; exact in01) dL_decide_8 ?_
  rw [show (0 : Int32).toNatClampNeg = 0 from rfl]
  have hO := put_o (v := (vDecide S f).toInt64) ko g1 hX2 hV2
  refine z_goto (tgt := 18) g dL_decide_9 (by decide) ?_
  refine z_iconst (v := 0) g dL_decide_18 (by decide) ?_
  exact z_iret g hrt (by decide) (by decide) (by decide) dL_decide_19 ⟨by rw [hc0], fun _ => fL_s, hO.1, B2, by rw [hc0, opS_0]; exact hO.2⟩
set_option maxHeartbeats 4000000 in
set_option maxRecDepth 100000 in
theorem w_appeal (E : Ev) {B : Nat → Nat → Nat} {x : Nat} {S : Ms} (M : Mm) (hX : RX B x S M) (hV : INV S) (o : Nat) (ko : kd M o = 290) (lo1 : ln M o = 1) (f : Int32) : CTH E yL_appeal cL_appeal 4 (some .int) [(0, 9, 12, 21), (0, 9, 15, 15)] 11 16 500 [.ref x, .int f, .ref o] M (fun r M' => r = some (.int (cAppeal S f)) ∧ (cAppeal S f = 0 → fL M' o 0 = (vAppeal S f).toInt64) ∧ agr TL M M' ∧ ∃ B', RX B' x (opS (cAppeal S f) S (sAppeal S f)) M') noX := by
  refine CTH.of rfl (Nat.le_of_ble_eq_true rfl) (fun X g hrt hhh hE hN hR => ?_)
  subst hE
  have k11 : kd M x % 1000 = 11 := by rw [hX.1.1]
  refine z_aload_n g dL_appeal_0 rfl ?_
  refine z_iconst (v := 0) g dL_appeal_1 (by decide) ?_
  refine z_aload_n g dL_appeal_2 rfl ?_
  refine z_iload_n g dL_appeal_3 rfl ?_
  refine z_callV g _ _ cv_L_64 (k_appeal _ M hX hV f) k11 (by decide) rfl (by rw [hR]; decide) (by rw [hR]; decide) (by rw [hR]; decide) (Nat.le_of_ble_eq_true rfl) rfl dL_appeal_4 (fun E9 M9 h9 => ?_) (fun r_9 M1 h_9 => ?_)
  · obtain ⟨rfl, h9⟩ := h9
    rcases h9 with ⟨e0, rfl⟩ | ⟨e1, rfl⟩
    · refine zx_catch g hhh (tableOf []) ⟨0, 9, 12, 21⟩ (tableOf [(0, 9, 15, 15)]) rfl (fun z hz => nomatch hz) (by decide) (show (21 : Nat) ≠ 0 by decide) hl_IOE hc_IOE (fun qq => ?_)
      refine z_astore_n g dL_appeal_12 (by rw [hN]; decide) ?_
      refine z_iconst (v := 1) g dL_appeal_13 (by decide) ?_
      exact z_iret g hrt (by decide) (by decide) (by decide) dL_appeal_14 ⟨by rw [e0], fun z => absurd (e0.symm.trans z) (by decide), agr.rf, B, by rw [e0, opS_1]; exact RX_wi0 1 hX⟩
    · refine zx_catch g hhh (tableOf [(0, 9, 12, 21)]) ⟨0, 9, 15, 15⟩ (tableOf []) rfl (fun z hz => by
        simp only [tableOf, List.map, List.mem_cons, List.not_mem_nil, or_false] at hz
        subst hz
        · exact Or.inr ⟨(by decide : (21 : Nat) ≠ 0), IOE, hl_IOE, nc_ISE_IOE⟩) (by decide) (show (15 : Nat) ≠ 0 by decide) hl_ISE hc_ISE (fun qq => ?_)
      refine z_astore_n g dL_appeal_15 (by rw [hN]; decide) ?_
      refine z_iconst (v := 2) g dL_appeal_16 (by decide) ?_
      exact z_iret g hrt (by decide) (by decide) (by decide) dL_appeal_17 ⟨by rw [e1], fun z => absurd (e1.symm.trans z) (by decide), agr.rf, B, by rw [e1, opS_2]; exact RX_wi0 2 hX⟩
  obtain ⟨hc0, rfl, g1, B2, hX2⟩ := h_9
  have hV2 := I_Appeal hV hc0
  obtain ⟨k1, l1⟩ := o_kl ko lo1 g1
  refine z_i2l g dL_appeal_7 ?_
  refine z_lastk (k := 290) g k1 (by decide) (by rw [l1]; exact in01) dL_appeal_8 ?_
  rw [show (0 : Int32).toNatClampNeg = 0 from rfl]
  have hO := put_o (v := (vAppeal S f).toInt64) ko g1 hX2 hV2
  refine z_goto (tgt := 18) g dL_appeal_9 (by decide) ?_
  refine z_iconst (v := 0) g dL_appeal_18 (by decide) ?_
  exact z_iret g hrt (by decide) (by decide) (by decide) dL_appeal_19 ⟨by rw [hc0], fun _ => fL_s, hO.1, B2, by rw [hc0, opS_0]; exact hO.2⟩
set_option maxHeartbeats 4000000 in
set_option maxRecDepth 100000 in
theorem w_petitionOf (E : Ev) {B : Nat → Nat → Nat} {x : Nat} {S : Ms} (M : Mm) (hX : RX B x S M) (hV : INV S) (o : Nat) (ko : kd M o = 290) (lo1 : ln M o = 1) (f : Int32) (w : Int32) : CTH E yL_petitionOf cL_petitionOf 5 (some .int) [(0, 10, 13, 21), (0, 10, 17, 13)] 11 16 500 [.ref x, .int f, .int w, .ref o] M (fun r M' => r = some (.int (cPetOf S f w)) ∧ (cPetOf S f w = 0 → fL M' o 0 = (vPetOf S f w).toInt64) ∧ agr TL M M' ∧ ∃ B', RX B' x (opS (cPetOf S f w) S (sPetOf S f w)) M') noX := by
  refine CTH.of rfl (Nat.le_of_ble_eq_true rfl) (fun X g hrt hhh hE hN hR => ?_)
  subst hE
  have k11 : kd M x % 1000 = 11 := by rw [hX.1.1]
  refine z_aload_n g dL_petitionOf_0 rfl ?_
  refine z_iconst (v := 0) g dL_petitionOf_1 (by decide) ?_
  refine z_aload_n g dL_petitionOf_2 rfl ?_
  refine z_iload_n g dL_petitionOf_3 rfl ?_
  refine z_iload_n g dL_petitionOf_4 rfl ?_
  refine z_callV g _ _ cv_L_67 (k_petOf _ M hX hV f w) k11 (by decide) rfl (by rw [hR]; decide) (by rw [hR]; decide) (by rw [hR]; decide) (Nat.le_of_ble_eq_true rfl) rfl dL_petitionOf_5 (fun E9 M9 h9 => ?_) (fun r_9 M1 h_9 => ?_)
  · obtain ⟨rfl, h9⟩ := h9
    rcases h9 with ⟨e0, rfl⟩ | ⟨e1, rfl⟩
    · refine zx_catch g hhh (tableOf []) ⟨0, 10, 13, 21⟩ (tableOf [(0, 10, 17, 13)]) rfl (fun z hz => nomatch hz) (by decide) (show (21 : Nat) ≠ 0 by decide) hl_IOE hc_IOE (fun qq => ?_)
      refine z_astore g dL_petitionOf_13 (by rw [hN]; decide) ?_
      refine z_iconst (v := 1) g dL_petitionOf_15 (by decide) ?_
      exact z_iret g hrt (by decide) (by decide) (by decide) dL_petitionOf_16 ⟨by rw [e0], fun z => absurd (e0.symm.trans z) (by decide), agr.rf, B, by rw [e0, opS_1]; exact RX_wi0 1 hX⟩
    · refine zx_catch g hhh (tableOf [(0, 10, 13, 21)]) ⟨0, 10, 17, 13⟩ (tableOf []) rfl (fun z hz => by
        simp only [tableOf, List.map, List.mem_cons, List.not_mem_nil, or_false] at hz
        subst hz
        · exact Or.inr ⟨(by decide : (21 : Nat) ≠ 0), IOE, hl_IOE, nc_IAE_IOE⟩) (by decide) (show (13 : Nat) ≠ 0 by decide) hl_IAE hc_IAE (fun qq => ?_)
      refine z_astore g dL_petitionOf_17 (by rw [hN]; decide) ?_
      refine z_iconst (v := 2) g dL_petitionOf_19 (by decide) ?_
      exact z_iret g hrt (by decide) (by decide) (by decide) dL_petitionOf_20 ⟨by rw [e1], fun z => absurd (e1.symm.trans z) (by decide), agr.rf, B, by rw [e1, opS_2]; exact RX_wi0 2 hX⟩
  obtain ⟨hc0, rfl, g1, B2, hX2⟩ := h_9
  have hV2 := I_PetOf hV hc0
  obtain ⟨k1, l1⟩ := o_kl ko lo1 g1
  refine z_i2l g dL_petitionOf_8 ?_
  refine z_lastk (k := 290) g k1 (by decide) (by rw [l1]; exact in01) dL_petitionOf_9 ?_
  rw [show (0 : Int32).toNatClampNeg = 0 from rfl]
  have hO := put_o (v := (vPetOf S f w).toInt64) ko g1 hX2 hV2
  refine z_goto (tgt := 21) g dL_petitionOf_10 (by decide) ?_
  refine z_iconst (v := 0) g dL_petitionOf_21 (by decide) ?_
  exact z_iret g hrt (by decide) (by decide) (by decide) dL_petitionOf_22 ⟨by rw [hc0], fun _ => fL_s, hO.1, B2, by rw [hc0, opS_0]; exact hO.2⟩
set_option maxHeartbeats 4000000 in
set_option maxRecDepth 100000 in
theorem w_census (E : Ev) {B : Nat → Nat → Nat} {x : Nat} {S : Ms} (M : Mm) (hX : RX B x S M) (hV : INV S) (o : Nat) (ko : kd M o = 290) (lo1 : ln M o = 1) (f : Int32) (t : Int32) (v : Int32) : CTH E yL_census cL_census 6 (some .int) [(0, 12, 15, 21), (0, 12, 19, 13)] 11 16 500 [.ref x, .int f, .int t, .int v, .ref o] M (fun r M' => r = some (.int (cCensus S f t v)) ∧ (cCensus S f t v = 0 → fL M' o 0 = (vCensus S f t v).toInt64) ∧ agr TL M M' ∧ ∃ B', RX B' x (opS (cCensus S f t v) S (sCensus S f t v)) M') noX := by
  refine CTH.of rfl (Nat.le_of_ble_eq_true rfl) (fun X g hrt hhh hE hN hR => ?_)
  subst hE
  have k11 : kd M x % 1000 = 11 := by rw [hX.1.1]
  refine z_aload g dL_census_0 rfl ?_
  refine z_iconst (v := 0) g dL_census_2 (by decide) ?_
  refine z_aload_n g dL_census_3 rfl ?_
  refine z_iload_n g dL_census_4 rfl ?_
  refine z_iload_n g dL_census_5 rfl ?_
  refine z_iload_n g dL_census_6 rfl ?_
  refine z_callV g _ _ cv_L_71 (k_census _ M hX hV f t v) k11 (by decide) rfl (by rw [hR]; decide) (by rw [hR]; decide) (by rw [hR]; decide) (Nat.le_of_ble_eq_true rfl) rfl dL_census_7 (fun E9 M9 h9 => ?_) (fun r_9 M1 h_9 => ?_)
  · obtain ⟨rfl, h9⟩ := h9
    rcases h9 with ⟨e0, rfl⟩ | ⟨e1, rfl⟩
    · refine zx_catch g hhh (tableOf []) ⟨0, 12, 15, 21⟩ (tableOf [(0, 12, 19, 13)]) rfl (fun z hz => nomatch hz) (by decide) (show (21 : Nat) ≠ 0 by decide) hl_IOE hc_IOE (fun qq => ?_)
      refine z_astore g dL_census_15 (by rw [hN]; decide) ?_
      refine z_iconst (v := 1) g dL_census_17 (by decide) ?_
      exact z_iret g hrt (by decide) (by decide) (by decide) dL_census_18 ⟨by rw [e0], fun z => absurd (e0.symm.trans z) (by decide), agr.rf, B, by rw [e0, opS_1]; exact RX_wi0 1 hX⟩
    · refine zx_catch g hhh (tableOf [(0, 12, 15, 21)]) ⟨0, 12, 19, 13⟩ (tableOf []) rfl (fun z hz => by
        simp only [tableOf, List.map, List.mem_cons, List.not_mem_nil, or_false] at hz
        subst hz
        · exact Or.inr ⟨(by decide : (21 : Nat) ≠ 0), IOE, hl_IOE, nc_IAE_IOE⟩) (by decide) (show (13 : Nat) ≠ 0 by decide) hl_IAE hc_IAE (fun qq => ?_)
      refine z_astore g dL_census_19 (by rw [hN]; decide) ?_
      refine z_iconst (v := 2) g dL_census_21 (by decide) ?_
      exact z_iret g hrt (by decide) (by decide) (by decide) dL_census_22 ⟨by rw [e1], fun z => absurd (e1.symm.trans z) (by decide), agr.rf, B, by rw [e1, opS_2]; exact RX_wi0 2 hX⟩
  obtain ⟨hc0, rfl, g1, B2, hX2⟩ := h_9
  have hV2 := I_Census hV hc0
  obtain ⟨k1, l1⟩ := o_kl ko lo1 g1
  refine z_i2l g dL_census_10 ?_
  refine z_lastk (k := 290) g k1 (by decide) (by rw [l1]; exact in01) dL_census_11 ?_
  rw [show (0 : Int32).toNatClampNeg = 0 from rfl]
  have hO := put_o (v := (vCensus S f t v).toInt64) ko g1 hX2 hV2
  refine z_goto (tgt := 23) g dL_census_12 (by decide) ?_
  refine z_iconst (v := 0) g dL_census_23 (by decide) ?_
  exact z_iret g hrt (by decide) (by decide) (by decide) dL_census_24 ⟨by rw [hc0], fun _ => fL_s, hO.1, B2, by rw [hc0, opS_0]; exact hO.2⟩
set_option maxHeartbeats 4000000 in
set_option maxRecDepth 100000 in
theorem w_dispute (E : Ev) {B : Nat → Nat → Nat} {x : Nat} {S : Ms} (M : Mm) (hX : RX B x S M) (hV : INV S) (f : Int32) (a : Int32) (b : Int32) : CTH E yL_dispute cL_dispute 5 (some .int) [(0, 7, 10, 21)] 11 16 500 [.ref x, .int f, .int a, .int b] M (fun r M' => r = some (.int (cDispute S f a b)) ∧ agr TL M M' ∧ ∃ B', RX B' x (opS (cDispute S f a b) S (sDispute S f a b)) M') noX := by
  refine CTH.of rfl (Nat.le_of_ble_eq_true rfl) (fun X g hrt hhh hE hN hR => ?_)
  subst hE
  have k11 : kd M x % 1000 = 11 := by rw [hX.1.1]
  refine z_aload_n g dL_dispute_0 rfl ?_
  refine z_iload_n g dL_dispute_1 rfl ?_
  refine z_iload_n g dL_dispute_2 rfl ?_
  refine z_iload_n g dL_dispute_3 rfl ?_
  refine z_callV g _ _ cv_L_74 (k_dispute _ M hX hV f a b) k11 (by decide) rfl (by rw [hR]; decide) (by rw [hR]; decide) (by rw [hR]; decide) (Nat.le_of_ble_eq_true rfl) rfl dL_dispute_4 (fun E9 M9 h9 => ?_) (fun r_9 M1 h_9 => ?_)
  · obtain ⟨rfl, h9⟩ := h9
    obtain ⟨e0, rfl⟩ := h9
    · refine zx_catch g hhh (tableOf []) ⟨0, 7, 10, 21⟩ (tableOf []) rfl (fun z hz => nomatch hz) (by decide) (show (21 : Nat) ≠ 0 by decide) hl_IOE hc_IOE (fun qq => ?_)
      refine z_astore g dL_dispute_10 (by rw [hN]; decide) ?_
      refine z_iconst (v := 1) g dL_dispute_12 (by decide) ?_
      exact z_iret g hrt (by decide) (by decide) (by decide) dL_dispute_13 ⟨by rw [e0], agr.rf, B, by rw [e0, opS_1]; exact RX_wi0 1 hX⟩
  obtain ⟨hc0, rfl, g1, B2, hX2⟩ := h_9
  have hV2 := I_Dispute hV hc0
  refine z_goto (tgt := 14) g dL_dispute_7 (by decide) ?_
  refine z_iconst (v := 0) g dL_dispute_14 (by decide) ?_
  exact z_iret g hrt (by decide) (by decide) (by decide) dL_dispute_15 ⟨by rw [hc0], g1.mono (fun c k z => Or.inl z), B2, by rw [hc0, opS_0]; exact hX2⟩
set_option maxHeartbeats 4000000 in
set_option maxRecDepth 100000 in
theorem w_shown (E : Ev) {B : Nat → Nat → Nat} {x : Nat} {S : Ms} (M : Mm) (hX : RX B x S M) (hV : INV S) (o : Nat) (ko : kd M o = 290) (lo1 : ln M o = 1) (f : Int32) (d : Int32) : CTH E yL_shown cL_shown 5 (some .int) [(0, 10, 13, 21), (0, 10, 17, 13)] 11 16 500 [.ref x, .int f, .int d, .ref o] M (fun r M' => r = some (.int (cShown S f d)) ∧ (cShown S f d = 0 → fL M' o 0 = (vShown S f d).toInt64) ∧ agr TL M M' ∧ ∃ B', RX B' x (opS (cShown S f d) S (sShown S f d)) M') noX := by
  refine CTH.of rfl (Nat.le_of_ble_eq_true rfl) (fun X g hrt hhh hE hN hR => ?_)
  subst hE
  have k11 : kd M x % 1000 = 11 := by rw [hX.1.1]
  refine z_aload_n g dL_shown_0 rfl ?_
  refine z_iconst (v := 0) g dL_shown_1 (by decide) ?_
  refine z_aload_n g dL_shown_2 rfl ?_
  refine z_iload_n g dL_shown_3 rfl ?_
  refine z_iload_n g dL_shown_4 rfl ?_
  refine z_callV g _ _ cv_L_77 (k_shown _ M hX hV f d) k11 (by decide) rfl (by rw [hR]; decide) (by rw [hR]; decide) (by rw [hR]; decide) (Nat.le_of_ble_eq_true rfl) rfl dL_shown_5 (fun E9 M9 h9 => ?_) (fun r_9 M1 h_9 => ?_)
  · obtain ⟨rfl, h9⟩ := h9
    rcases h9 with ⟨e0, rfl⟩ | ⟨e1, rfl⟩
    · refine zx_catch g hhh (tableOf []) ⟨0, 10, 13, 21⟩ (tableOf [(0, 10, 17, 13)]) rfl (fun z hz => nomatch hz) (by decide) (show (21 : Nat) ≠ 0 by decide) hl_IOE hc_IOE (fun qq => ?_)
      refine z_astore g dL_shown_13 (by rw [hN]; decide) ?_
      refine z_iconst (v := 1) g dL_shown_15 (by decide) ?_
      exact z_iret g hrt (by decide) (by decide) (by decide) dL_shown_16 ⟨by rw [e0], fun z => absurd (e0.symm.trans z) (by decide), agr.rf, B, by rw [e0, opS_1]; exact RX_wi0 1 hX⟩
    · refine zx_catch g hhh (tableOf [(0, 10, 13, 21)]) ⟨0, 10, 17, 13⟩ (tableOf []) rfl (fun z hz => by
        simp only [tableOf, List.map, List.mem_cons, List.not_mem_nil, or_false] at hz
        subst hz
        · exact Or.inr ⟨(by decide : (21 : Nat) ≠ 0), IOE, hl_IOE, nc_IAE_IOE⟩) (by decide) (show (13 : Nat) ≠ 0 by decide) hl_IAE hc_IAE (fun qq => ?_)
      refine z_astore g dL_shown_17 (by rw [hN]; decide) ?_
      refine z_iconst (v := 2) g dL_shown_19 (by decide) ?_
      exact z_iret g hrt (by decide) (by decide) (by decide) dL_shown_20 ⟨by rw [e1], fun z => absurd (e1.symm.trans z) (by decide), agr.rf, B, by rw [e1, opS_2]; exact RX_wi0 2 hX⟩
  obtain ⟨hc0, rfl, g1, B2, hX2⟩ := h_9
  have hV2 := I_Shown hV hc0
  obtain ⟨k1, l1⟩ := o_kl ko lo1 g1
  refine z_i2l g dL_shown_8 ?_
  refine z_lastk (k := 290) g k1 (by decide) (by rw [l1]; exact in01) dL_shown_9 ?_
  rw [show (0 : Int32).toNatClampNeg = 0 from rfl]
  have hO := put_o (v := (vShown S f d).toInt64) ko g1 hX2 hV2
  refine z_goto (tgt := 21) g dL_shown_10 (by decide) ?_
  refine z_iconst (v := 0) g dL_shown_21 (by decide) ?_
  exact z_iret g hrt (by decide) (by decide) (by decide) dL_shown_22 ⟨by rw [hc0], fun _ => fL_s, hO.1, B2, by rw [hc0, opS_0]; exact hO.2⟩
set_option maxHeartbeats 4000000 in
set_option maxRecDepth 100000 in
theorem w_display (E : Ev) {B : Nat → Nat → Nat} {x : Nat} {S : Ms} (M : Mm) (hX : RX B x S M) (hV : INV S) (o : Nat) (ko : kd M o = 290) (lo1 : ln M o = 1) (f : Int32) (t : Int32) : CTH E yL_display cL_display 5 (some .int) [(0, 9, 12, 21)] 11 16 500 [.ref x, .int f, .int t, .ref o] M (fun r M' => r = some (.int (cDisplay S f t)) ∧ (cDisplay S f t = 0 → fL M' o 0 = vDisplay S f t) ∧ agr TL M M' ∧ ∃ B', RX B' x (opS (cDisplay S f t) S (sDisplay S f t)) M') noX := by
  refine CTH.of rfl (Nat.le_of_ble_eq_true rfl) (fun X g hrt hhh hE hN hR => ?_)
  subst hE
  have k11 : kd M x % 1000 = 11 := by rw [hX.1.1]
  refine z_aload_n g dL_display_0 rfl ?_
  refine z_iconst (v := 0) g dL_display_1 (by decide) ?_
  refine z_aload_n g dL_display_2 rfl ?_
  refine z_iload_n g dL_display_3 rfl ?_
  refine z_iload_n g dL_display_4 rfl ?_
  refine z_callV g _ _ cv_L_80 (k_display _ M hX hV f t) k11 (by decide) rfl (by rw [hR]; decide) (by rw [hR]; decide) (by rw [hR]; decide) (Nat.le_of_ble_eq_true rfl) rfl dL_display_5 (fun E9 M9 h9 => ?_) (fun r_9 M1 h_9 => ?_)
  · obtain ⟨rfl, h9⟩ := h9
    obtain ⟨e0, rfl⟩ := h9
    · refine zx_catch g hhh (tableOf []) ⟨0, 9, 12, 21⟩ (tableOf []) rfl (fun z hz => nomatch hz) (by decide) (show (21 : Nat) ≠ 0 by decide) hl_IOE hc_IOE (fun qq => ?_)
      refine z_astore g dL_display_12 (by rw [hN]; decide) ?_
      refine z_iconst (v := 1) g dL_display_14 (by decide) ?_
      exact z_iret g hrt (by decide) (by decide) (by decide) dL_display_15 ⟨by rw [e0], fun z => absurd (e0.symm.trans z) (by decide), agr.rf, B, by rw [e0, opS_1]; exact RX_wi0 1 hX⟩
  obtain ⟨hc0, rfl, g1, B2, hX2⟩ := h_9
  have hV2 := I_Display hV hc0
  obtain ⟨k1, l1⟩ := o_kl ko lo1 g1
  refine z_lastk (k := 290) g k1 (by decide) (by rw [l1]; exact in01) dL_display_8 ?_
  rw [show (0 : Int32).toNatClampNeg = 0 from rfl]
  have hO := put_o (v := vDisplay S f t) ko g1 hX2 hV2
  refine z_goto (tgt := 16) g dL_display_9 (by decide) ?_
  refine z_iconst (v := 0) g dL_display_16 (by decide) ?_
  exact z_iret g hrt (by decide) (by decide) (by decide) dL_display_17 ⟨by rw [hc0], fun _ => fL_s, hO.1, B2, by rw [hc0, opS_0]; exact hO.2⟩
set_option maxHeartbeats 4000000 in
set_option maxRecDepth 100000 in
theorem w_table (E : Ev) {B : Nat → Nat → Nat} {x : Nat} {S : Ms} (M : Mm) (hX : RX B x S M) (hV : INV S) (o : Nat) (ko : kd M o = 290) (lo1 : ln M o = 1) (f : Int32) (l : Int32) (p : Int32) : CTH E yL_table cL_table 6 (some .int) [(0, 12, 15, 21), (0, 12, 19, 13)] 11 16 500 [.ref x, .int f, .int l, .int p, .ref o] M (fun r M' => r = some (.int (cTable S f l p)) ∧ (cTable S f l p = 0 → fL M' o 0 = (vTable S f l p).toInt64) ∧ agr TL M M' ∧ ∃ B', RX B' x (opS (cTable S f l p) S (sTable S f l p)) M') noX := by
  refine CTH.of rfl (Nat.le_of_ble_eq_true rfl) (fun X g hrt hhh hE hN hR => ?_)
  subst hE
  have k11 : kd M x % 1000 = 11 := by rw [hX.1.1]
  refine z_aload g dL_table_0 rfl ?_
  refine z_iconst (v := 0) g dL_table_2 (by decide) ?_
  refine z_aload_n g dL_table_3 rfl ?_
  refine z_iload_n g dL_table_4 rfl ?_
  refine z_iload_n g dL_table_5 rfl ?_
  refine z_iload_n g dL_table_6 rfl ?_
  refine z_callV g _ _ cv_L_84 (k_table _ M hX hV f l p) k11 (by decide) rfl (by rw [hR]; decide) (by rw [hR]; decide) (by rw [hR]; decide) (Nat.le_of_ble_eq_true rfl) rfl dL_table_7 (fun E9 M9 h9 => ?_) (fun r_9 M1 h_9 => ?_)
  · obtain ⟨rfl, h9⟩ := h9
    rcases h9 with ⟨e0, rfl⟩ | ⟨e1, rfl⟩
    · refine zx_catch g hhh (tableOf []) ⟨0, 12, 15, 21⟩ (tableOf [(0, 12, 19, 13)]) rfl (fun z hz => nomatch hz) (by decide) (show (21 : Nat) ≠ 0 by decide) hl_IOE hc_IOE (fun qq => ?_)
      refine z_astore g dL_table_15 (by rw [hN]; decide) ?_
      refine z_iconst (v := 1) g dL_table_17 (by decide) ?_
      exact z_iret g hrt (by decide) (by decide) (by decide) dL_table_18 ⟨by rw [e0], fun z => absurd (e0.symm.trans z) (by decide), agr.rf, B, by rw [e0, opS_1]; exact RX_wi0 1 hX⟩
    · refine zx_catch g hhh (tableOf [(0, 12, 15, 21)]) ⟨0, 12, 19, 13⟩ (tableOf []) rfl (fun z hz => by
        simp only [tableOf, List.map, List.mem_cons, List.not_mem_nil, or_false] at hz
        subst hz
        · exact Or.inr ⟨(by decide : (21 : Nat) ≠ 0), IOE, hl_IOE, nc_IAE_IOE⟩) (by decide) (show (13 : Nat) ≠ 0 by decide) hl_IAE hc_IAE (fun qq => ?_)
      refine z_astore g dL_table_19 (by rw [hN]; decide) ?_
      refine z_iconst (v := 2) g dL_table_21 (by decide) ?_
      exact z_iret g hrt (by decide) (by decide) (by decide) dL_table_22 ⟨by rw [e1], fun z => absurd (e1.symm.trans z) (by decide), agr.rf, B, by rw [e1, opS_2]; exact RX_wi0 2 hX⟩
  obtain ⟨hc0, rfl, g1, B2, hX2⟩ := h_9
  have hV2 := I_Table hV hc0
  obtain ⟨k1, l1⟩ := o_kl ko lo1 g1
  refine z_i2l g dL_table_10 ?_
  refine z_lastk (k := 290) g k1 (by decide) (by rw [l1]; exact in01) dL_table_11 ?_
  rw [show (0 : Int32).toNatClampNeg = 0 from rfl]
  have hO := put_o (v := (vTable S f l p).toInt64) ko g1 hX2 hV2
  refine z_goto (tgt := 23) g dL_table_12 (by decide) ?_
  refine z_iconst (v := 0) g dL_table_23 (by decide) ?_
  exact z_iret g hrt (by decide) (by decide) (by decide) dL_table_24 ⟨by rw [hc0], fun _ => fL_s, hO.1, B2, by rw [hc0, opS_0]; exact hO.2⟩
set_option maxHeartbeats 4000000 in
set_option maxRecDepth 100000 in
theorem w_write (E : Ev) {B : Nat → Nat → Nat} {x : Nat} {S : Ms} (M : Mm) (hX : RX B x S M) (hV : INV S) (o : Nat) (ko : kd M o = 290) (lo1 : ln M o = 1) (w : Int64) (t : Int32) : CTH E yL_write cL_write 6 (some .int) [(0, 10, 13, 21), (0, 10, 17, 13)] 11 16 500 [.ref x, .long w, .int t, .ref o] M (fun r M' => r = some (.int (cWrite S w t)) ∧ (cWrite S w t = 0 → fL M' o 0 = vWrite S w t) ∧ agr TL M M' ∧ ∃ B', RX B' x (opS (cWrite S w t) S (sWrite S w t)) M') noX := by
  refine CTH.of rfl (Nat.le_of_ble_eq_true rfl) (fun X g hrt hhh hE hN hR => ?_)
  subst hE
  have k11 : kd M x % 1000 = 11 := by rw [hX.1.1]
  refine z_aload g dL_write_0 rfl ?_
  refine z_iconst (v := 0) g dL_write_2 (by decide) ?_
  refine z_aload_n g dL_write_3 rfl ?_
  refine z_lload_n g dL_write_4 rfl ?_
  refine z_iload_n g dL_write_5 rfl ?_
  refine z_callV g _ _ cv_L_87 (k_write _ M hX hV w t) k11 (by decide) rfl (by rw [hR]; decide) (by rw [hR]; decide) (by rw [hR]; decide) (Nat.le_of_ble_eq_true rfl) rfl dL_write_6 (fun E9 M9 h9 => ?_) (fun r_9 M1 h_9 => ?_)
  · obtain ⟨rfl, h9⟩ := h9
    rcases h9 with ⟨e0, rfl⟩ | ⟨e1, rfl⟩
    · refine zx_catch g hhh (tableOf []) ⟨0, 10, 13, 21⟩ (tableOf [(0, 10, 17, 13)]) rfl (fun z hz => nomatch hz) (by decide) (show (21 : Nat) ≠ 0 by decide) hl_IOE hc_IOE (fun qq => ?_)
      refine z_astore g dL_write_13 (by rw [hN]; decide) ?_
      refine z_iconst (v := 1) g dL_write_15 (by decide) ?_
      exact z_iret g hrt (by decide) (by decide) (by decide) dL_write_16 ⟨by rw [e0], fun z => absurd (e0.symm.trans z) (by decide), agr.rf, B, by rw [e0, opS_1]; exact RX_wi0 1 hX⟩
    · refine zx_catch g hhh (tableOf [(0, 10, 13, 21)]) ⟨0, 10, 17, 13⟩ (tableOf []) rfl (fun z hz => by
        simp only [tableOf, List.map, List.mem_cons, List.not_mem_nil, or_false] at hz
        subst hz
        · exact Or.inr ⟨(by decide : (21 : Nat) ≠ 0), IOE, hl_IOE, nc_IAE_IOE⟩) (by decide) (show (13 : Nat) ≠ 0 by decide) hl_IAE hc_IAE (fun qq => ?_)
      refine z_astore g dL_write_17 (by rw [hN]; decide) ?_
      refine z_iconst (v := 2) g dL_write_19 (by decide) ?_
      exact z_iret g hrt (by decide) (by decide) (by decide) dL_write_20 ⟨by rw [e1], fun z => absurd (e1.symm.trans z) (by decide), agr.rf, B, by rw [e1, opS_2]; exact RX_wi0 2 hX⟩
  obtain ⟨hc0, rfl, g1, B2, hX2⟩ := h_9
  have hV2 := I_Write hV hc0
  obtain ⟨k1, l1⟩ := o_kl ko lo1 g1
  refine z_lastk (k := 290) g k1 (by decide) (by rw [l1]; exact in01) dL_write_9 ?_
  rw [show (0 : Int32).toNatClampNeg = 0 from rfl]
  have hO := put_o (v := vWrite S w t) ko g1 hX2 hV2
  refine z_goto (tgt := 21) g dL_write_10 (by decide) ?_
  refine z_iconst (v := 0) g dL_write_21 (by decide) ?_
  exact z_iret g hrt (by decide) (by decide) (by decide) dL_write_22 ⟨by rw [hc0], fun _ => fL_s, hO.1, B2, by rw [hc0, opS_0]; exact hO.2⟩
set_option maxHeartbeats 4000000 in
set_option maxRecDepth 100000 in
theorem w_back (E : Ev) {B : Nat → Nat → Nat} {x : Nat} {S : Ms} (M : Mm) (hX : RX B x S M) (hV : INV S) (o : Nat) (ko : kd M o = 290) (lo1 : ln M o = 1) (w : Int64) (t : Int32) : CTH E yL_back cL_back 6 (some .int) [(0, 10, 13, 21), (0, 10, 17, 13)] 11 16 500 [.ref x, .long w, .int t, .ref o] M (fun r M' => r = some (.int (cWrite S w t)) ∧ (cWrite S w t = 0 → fL M' o 0 = vBack S w t) ∧ agr TL M M' ∧ ∃ B', RX B' x (opS (cWrite S w t) S (sWrite S w t)) M') noX := by
  refine CTH.of rfl (Nat.le_of_ble_eq_true rfl) (fun X g hrt hhh hE hN hR => ?_)
  subst hE
  have k11 : kd M x % 1000 = 11 := by rw [hX.1.1]
  refine z_aload g dL_back_0 rfl ?_
  refine z_iconst (v := 0) g dL_back_2 (by decide) ?_
  refine z_aload_n g dL_back_3 rfl ?_
  refine z_lload_n g dL_back_4 rfl ?_
  refine z_iload_n g dL_back_5 rfl ?_
  refine z_callV g _ _ cv_L_91 (k_back _ M hX hV w t) k11 (by decide) rfl (by rw [hR]; decide) (by rw [hR]; decide) (by rw [hR]; decide) (Nat.le_of_ble_eq_true rfl) rfl dL_back_6 (fun E9 M9 h9 => ?_) (fun r_9 M1 h_9 => ?_)
  · obtain ⟨rfl, h9⟩ := h9
    rcases h9 with ⟨e0, rfl⟩ | ⟨e1, rfl⟩
    · refine zx_catch g hhh (tableOf []) ⟨0, 10, 13, 21⟩ (tableOf [(0, 10, 17, 13)]) rfl (fun z hz => nomatch hz) (by decide) (show (21 : Nat) ≠ 0 by decide) hl_IOE hc_IOE (fun qq => ?_)
      refine z_astore g dL_back_13 (by rw [hN]; decide) ?_
      refine z_iconst (v := 1) g dL_back_15 (by decide) ?_
      exact z_iret g hrt (by decide) (by decide) (by decide) dL_back_16 ⟨by rw [e0], fun z => absurd (e0.symm.trans z) (by decide), agr.rf, B, by rw [e0, opS_1]; exact RX_wi0 1 hX⟩
    · refine zx_catch g hhh (tableOf [(0, 10, 13, 21)]) ⟨0, 10, 17, 13⟩ (tableOf []) rfl (fun z hz => by
        simp only [tableOf, List.map, List.mem_cons, List.not_mem_nil, or_false] at hz
        subst hz
        · exact Or.inr ⟨(by decide : (21 : Nat) ≠ 0), IOE, hl_IOE, nc_IAE_IOE⟩) (by decide) (show (13 : Nat) ≠ 0 by decide) hl_IAE hc_IAE (fun qq => ?_)
      refine z_astore g dL_back_17 (by rw [hN]; decide) ?_
      refine z_iconst (v := 2) g dL_back_19 (by decide) ?_
      exact z_iret g hrt (by decide) (by decide) (by decide) dL_back_20 ⟨by rw [e1], fun z => absurd (e1.symm.trans z) (by decide), agr.rf, B, by rw [e1, opS_2]; exact RX_wi0 2 hX⟩
  obtain ⟨hc0, rfl, g1, B2, hX2⟩ := h_9
  have hV2 := I_Write hV hc0
  obtain ⟨k1, l1⟩ := o_kl ko lo1 g1
  refine z_lastk (k := 290) g k1 (by decide) (by rw [l1]; exact in01) dL_back_9 ?_
  rw [show (0 : Int32).toNatClampNeg = 0 from rfl]
  have hO := put_o (v := vBack S w t) ko g1 hX2 hV2
  refine z_goto (tgt := 21) g dL_back_10 (by decide) ?_
  refine z_iconst (v := 0) g dL_back_21 (by decide) ?_
  exact z_iret g hrt (by decide) (by decide) (by decide) dL_back_22 ⟨by rw [hc0], fun _ => fL_s, hO.1, B2, by rw [hc0, opS_0]; exact hO.2⟩
set_option maxHeartbeats 4000000 in
set_option maxRecDepth 100000 in
theorem w_loss (E : Ev) {B : Nat → Nat → Nat} {x : Nat} {S : Ms} (M : Mm) (hX : RX B x S M) (hV : INV S) (o : Nat) (ko : kd M o = 290) (lo1 : ln M o = 1) (f : Int32) : CTH E yL_loss cL_loss 4 (some .int) [(0, 9, 12, 21)] 11 16 500 [.ref x, .int f, .ref o] M (fun r M' => r = some (.int (cLoss S f)) ∧ (cLoss S f = 0 → fL M' o 0 = (vLoss S f).toInt64) ∧ agr TL M M' ∧ ∃ B', RX B' x (opS (cLoss S f) S (sLoss S f)) M') noX := by
  refine CTH.of rfl (Nat.le_of_ble_eq_true rfl) (fun X g hrt hhh hE hN hR => ?_)
  subst hE
  have k11 : kd M x % 1000 = 11 := by rw [hX.1.1]
  refine z_aload_n g dL_loss_0 rfl ?_
  refine z_iconst (v := 0) g dL_loss_1 (by decide) ?_
  refine z_aload_n g dL_loss_2 rfl ?_
  refine z_iload_n g dL_loss_3 rfl ?_
  refine z_callV g _ _ cv_L_94 (k_loss _ M hX hV f) k11 (by decide) rfl (by rw [hR]; decide) (by rw [hR]; decide) (by rw [hR]; decide) (Nat.le_of_ble_eq_true rfl) rfl dL_loss_4 (fun E9 M9 h9 => ?_) (fun r_9 M1 h_9 => ?_)
  · obtain ⟨rfl, h9⟩ := h9
    obtain ⟨e0, rfl⟩ := h9
    · refine zx_catch g hhh (tableOf []) ⟨0, 9, 12, 21⟩ (tableOf []) rfl (fun z hz => nomatch hz) (by decide) (show (21 : Nat) ≠ 0 by decide) hl_IOE hc_IOE (fun qq => ?_)
      refine z_astore_n g dL_loss_12 (by rw [hN]; decide) ?_
      refine z_iconst (v := 1) g dL_loss_13 (by decide) ?_
      exact z_iret g hrt (by decide) (by decide) (by decide) dL_loss_14 ⟨by rw [e0], fun z => absurd (e0.symm.trans z) (by decide), agr.rf, B, by rw [e0, opS_1]; exact RX_wi0 1 hX⟩
  obtain ⟨hc0, rfl, g1, B2, hX2⟩ := h_9
  have hV2 := I_Loss hV hc0
  obtain ⟨k1, l1⟩ := o_kl ko lo1 g1
  refine z_i2l g dL_loss_7 ?_
  refine z_lastk (k := 290) g k1 (by decide) (by rw [l1]; exact in01) dL_loss_8 ?_
  rw [show (0 : Int32).toNatClampNeg = 0 from rfl]
  have hO := put_o (v := (vLoss S f).toInt64) ko g1 hX2 hV2
  refine z_goto (tgt := 15) g dL_loss_9 (by decide) ?_
  refine z_iconst (v := 0) g dL_loss_15 (by decide) ?_
  exact z_iret g hrt (by decide) (by decide) (by decide) dL_loss_16 ⟨by rw [hc0], fun _ => fL_s, hO.1, B2, by rw [hc0, opS_0]; exact hO.2⟩
set_option maxHeartbeats 4000000 in
set_option maxRecDepth 100000 in
theorem w_reading (E : Ev) {B : Nat → Nat → Nat} {x : Nat} {S : Ms} (M : Mm) (hX : RX B x S M) (hV : INV S) (o : Nat) (ko : kd M o = 290) (lo1 : ln M o = 1) (w : Int64) (p : Int32) (q : Int32) : CTH E yL_reading cL_reading 7 (some .int) [(0, 13, 16, 13), (0, 13, 20, 15)] 11 16 500 [.ref x, .long w, .int p, .int q, .ref o] M (fun r M' => r = some (.int (cReading S w p q)) ∧ (cReading S w p q = 0 → fL M' o 0 = (vReading S w p q).toInt64) ∧ agr TL M M' ∧ ∃ B', RX B' x (opS (cReading S w p q) S (sReading S w p q)) M') noX := by
  refine CTH.of rfl (Nat.le_of_ble_eq_true rfl) (fun X g hrt hhh hE hN hR => ?_)
  subst hE
  have k11 : kd M x % 1000 = 11 := by rw [hX.1.1]
  refine z_aload g dL_reading_0 rfl ?_
  refine z_iconst (v := 0) g dL_reading_2 (by decide) ?_
  refine z_aload_n g dL_reading_3 rfl ?_
  refine z_lload_n g dL_reading_4 rfl ?_
  refine z_iload_n g dL_reading_5 rfl ?_
  refine z_iload g dL_reading_6 rfl ?_
  refine z_callV g _ _ cv_L_97 (k_reading _ M hX hV w p q) k11 (by decide) rfl (by rw [hR]; decide) (by rw [hR]; decide) (by rw [hR]; decide) (Nat.le_of_ble_eq_true rfl) rfl dL_reading_8 (fun E9 M9 h9 => ?_) (fun r_9 M1 h_9 => ?_)
  · obtain ⟨rfl, h9⟩ := h9
    rcases h9 with ⟨e0, rfl⟩ | ⟨e1, rfl⟩
    · refine zx_catch g hhh (tableOf []) ⟨0, 13, 16, 13⟩ (tableOf [(0, 13, 20, 15)]) rfl (fun z hz => nomatch hz) (by decide) (show (13 : Nat) ≠ 0 by decide) hl_IAE hc_IAE (fun qq => ?_)
      refine z_astore g dL_reading_16 (by rw [hN]; decide) ?_
      refine z_iconst (v := 1) g dL_reading_18 (by decide) ?_
      exact z_iret g hrt (by decide) (by decide) (by decide) dL_reading_19 ⟨by rw [e0], fun z => absurd (e0.symm.trans z) (by decide), agr.rf, B, by rw [e0, opS_1]; exact RX_wi0 1 hX⟩
    · refine zx_catch g hhh (tableOf [(0, 13, 16, 13)]) ⟨0, 13, 20, 15⟩ (tableOf []) rfl (fun z hz => by
        simp only [tableOf, List.map, List.mem_cons, List.not_mem_nil, or_false] at hz
        subst hz
        · exact Or.inr ⟨(by decide : (13 : Nat) ≠ 0), IAE, hl_IAE, nc_ISE_IAE⟩) (by decide) (show (15 : Nat) ≠ 0 by decide) hl_ISE hc_ISE (fun qq => ?_)
      refine z_astore g dL_reading_20 (by rw [hN]; decide) ?_
      refine z_iconst (v := 2) g dL_reading_22 (by decide) ?_
      exact z_iret g hrt (by decide) (by decide) (by decide) dL_reading_23 ⟨by rw [e1], fun z => absurd (e1.symm.trans z) (by decide), agr.rf, B, by rw [e1, opS_2]; exact RX_wi0 2 hX⟩
  obtain ⟨hc0, rfl, g1, B2, hX2⟩ := h_9
  have hV2 := I_Reading hV hc0
  obtain ⟨k1, l1⟩ := o_kl ko lo1 g1
  refine z_i2l g dL_reading_11 ?_
  refine z_lastk (k := 290) g k1 (by decide) (by rw [l1]; exact in01) dL_reading_12 ?_
  rw [show (0 : Int32).toNatClampNeg = 0 from rfl]
  have hO := put_o (v := (vReading S w p q).toInt64) ko g1 hX2 hV2
  refine z_goto (tgt := 24) g dL_reading_13 (by decide) ?_
  refine z_iconst (v := 0) g dL_reading_24 (by decide) ?_
  exact z_iret g hrt (by decide) (by decide) (by decide) dL_reading_25 ⟨by rw [hc0], fun _ => fL_s, hO.1, B2, by rw [hc0, opS_0]; exact hO.2⟩
set_option maxHeartbeats 4000000 in
set_option maxRecDepth 100000 in
theorem w_cost (E : Ev) {B : Nat → Nat → Nat} {x : Nat} {S : Ms} (M : Mm) (hX : RX B x S M) (hV : INV S) (o : Nat) (ko : kd M o = 290) (lo1 : ln M o = 1) (q : Int32) (f : Int32) : CTH E yL_cost cL_cost 5 (some .int) [(0, 10, 13, 21)] 11 16 500 [.ref x, .int q, .int f, .ref o] M (fun r M' => r = some (.int (cCost S q f)) ∧ (cCost S q f = 0 → fL M' o 0 = (vCost S q f).toInt64) ∧ agr TL M M' ∧ ∃ B', RX B' x (opS (cCost S q f) S (sCost S q f)) M') noX := by
  refine CTH.of rfl (Nat.le_of_ble_eq_true rfl) (fun X g hrt hhh hE hN hR => ?_)
  subst hE
  have k11 : kd M x % 1000 = 11 := by rw [hX.1.1]
  refine z_aload_n g dL_cost_0 rfl ?_
  refine z_iconst (v := 0) g dL_cost_1 (by decide) ?_
  refine z_aload_n g dL_cost_2 rfl ?_
  refine z_iload_n g dL_cost_3 rfl ?_
  refine z_iload_n g dL_cost_4 rfl ?_
  refine z_callV g _ _ cv_L_101 (k_callCost _ M hX hV q f) k11 (by decide) rfl (by rw [hR]; decide) (by rw [hR]; decide) (by rw [hR]; decide) (Nat.le_of_ble_eq_true rfl) rfl dL_cost_5 (fun E9 M9 h9 => ?_) (fun r_9 M1 h_9 => ?_)
  · obtain ⟨rfl, h9⟩ := h9
    obtain ⟨e0, rfl⟩ := h9
    · refine zx_catch g hhh (tableOf []) ⟨0, 10, 13, 21⟩ (tableOf []) rfl (fun z hz => nomatch hz) (by decide) (show (21 : Nat) ≠ 0 by decide) hl_IOE hc_IOE (fun qq => ?_)
      refine z_astore g dL_cost_13 (by rw [hN]; decide) ?_
      refine z_iconst (v := 1) g dL_cost_15 (by decide) ?_
      exact z_iret g hrt (by decide) (by decide) (by decide) dL_cost_16 ⟨by rw [e0], fun z => absurd (e0.symm.trans z) (by decide), agr.rf, B, by rw [e0, opS_1]; exact RX_wi0 1 hX⟩
  obtain ⟨hc0, rfl, g1, B2, hX2⟩ := h_9
  have hV2 := I_Cost hV hc0
  obtain ⟨k1, l1⟩ := o_kl ko lo1 g1
  refine z_i2l g dL_cost_8 ?_
  refine z_lastk (k := 290) g k1 (by decide) (by rw [l1]; exact in01) dL_cost_9 ?_
  rw [show (0 : Int32).toNatClampNeg = 0 from rfl]
  have hO := put_o (v := (vCost S q f).toInt64) ko g1 hX2 hV2
  refine z_goto (tgt := 17) g dL_cost_10 (by decide) ?_
  refine z_iconst (v := 0) g dL_cost_17 (by decide) ?_
  exact z_iret g hrt (by decide) (by decide) (by decide) dL_cost_18 ⟨by rw [hc0], fun _ => fL_s, hO.1, B2, by rw [hc0, opS_0]; exact hO.2⟩
set_option maxHeartbeats 4000000 in
set_option maxRecDepth 100000 in
theorem w_find (E : Ev) {B : Nat → Nat → Nat} {x : Nat} {S : Ms} (M : Mm) (hX : RX B x S M) (hV : INV S) (o : Nat) (ko : kd M o = 290) (lo1 : ln M o = 1) (w : Int64) (p : Int32) (q : Int32) (y : Int32) : CTH E yL_find cL_find 8 (some .int) [(0, 15, 18, 21), (0, 15, 22, 13)] 11 16 500 [.ref x, .long w, .int p, .int q, .int y, .ref o] M (fun r M' => r = some (.int (cFind S w p q y)) ∧ (cFind S w p q y = 0 → fL M' o 0 = (vFind S w p q y).toInt64) ∧ agr TL M M' ∧ ∃ B', RX B' x (opS (cFind S w p q y) S (sFind S w p q y)) M') noX := by
  refine CTH.of rfl (Nat.le_of_ble_eq_true rfl) (fun X g hrt hhh hE hN hR => ?_)
  subst hE
  have k11 : kd M x % 1000 = 11 := by rw [hX.1.1]
  refine z_aload g dL_find_0 rfl ?_
  refine z_iconst (v := 0) g dL_find_2 (by decide) ?_
  refine z_aload_n g dL_find_3 rfl ?_
  refine z_lload_n g dL_find_4 rfl ?_
  refine z_iload_n g dL_find_5 rfl ?_
  refine z_iload g dL_find_6 rfl ?_
  refine z_iload g dL_find_8 rfl ?_
  refine z_callV g _ _ cv_L_104 (k_find _ M hX hV w p q y) k11 (by decide) rfl (by rw [hR]; decide) (by rw [hR]; decide) (by rw [hR]; decide) (Nat.le_of_ble_eq_true rfl) rfl dL_find_10 (fun E9 M9 h9 => ?_) (fun r_9 M1 h_9 => ?_)
  · obtain ⟨rfl, h9⟩ := h9
    rcases h9 with ⟨e0, rfl⟩ | ⟨e1, rfl⟩
    · refine zx_catch g hhh (tableOf []) ⟨0, 15, 18, 21⟩ (tableOf [(0, 15, 22, 13)]) rfl (fun z hz => nomatch hz) (by decide) (show (21 : Nat) ≠ 0 by decide) hl_IOE hc_IOE (fun qq => ?_)
      refine z_astore g dL_find_18 (by rw [hN]; decide) ?_
      refine z_iconst (v := 1) g dL_find_20 (by decide) ?_
      exact z_iret g hrt (by decide) (by decide) (by decide) dL_find_21 ⟨by rw [e0], fun z => absurd (e0.symm.trans z) (by decide), agr.rf, B, by rw [e0, opS_1]; exact RX_wi0 1 hX⟩
    · refine zx_catch g hhh (tableOf [(0, 15, 18, 21)]) ⟨0, 15, 22, 13⟩ (tableOf []) rfl (fun z hz => by
        simp only [tableOf, List.map, List.mem_cons, List.not_mem_nil, or_false] at hz
        subst hz
        · exact Or.inr ⟨(by decide : (21 : Nat) ≠ 0), IOE, hl_IOE, nc_IAE_IOE⟩) (by decide) (show (13 : Nat) ≠ 0 by decide) hl_IAE hc_IAE (fun qq => ?_)
      refine z_astore g dL_find_22 (by rw [hN]; decide) ?_
      refine z_iconst (v := 2) g dL_find_24 (by decide) ?_
      exact z_iret g hrt (by decide) (by decide) (by decide) dL_find_25 ⟨by rw [e1], fun z => absurd (e1.symm.trans z) (by decide), agr.rf, B, by rw [e1, opS_2]; exact RX_wi0 2 hX⟩
  obtain ⟨hc0, rfl, g1, B2, hX2⟩ := h_9
  have hV2 := I_Find hV hc0
  obtain ⟨k1, l1⟩ := o_kl ko lo1 g1
  refine z_i2l g dL_find_13 ?_
  refine z_lastk (k := 290) g k1 (by decide) (by rw [l1]; exact in01) dL_find_14 ?_
  rw [show (0 : Int32).toNatClampNeg = 0 from rfl]
  have hO := put_o (v := (vFind S w p q y).toInt64) ko g1 hX2 hV2
  refine z_goto (tgt := 26) g dL_find_15 (by decide) ?_
  refine z_iconst (v := 0) g dL_find_26 (by decide) ?_
  exact z_iret g hrt (by decide) (by decide) (by decide) dL_find_27 ⟨by rw [hc0], fun _ => fL_s, hO.1, B2, by rw [hc0, opS_0]; exact hO.2⟩
set_option maxHeartbeats 4000000 in
set_option maxRecDepth 100000 in
theorem w_pull (E : Ev) {B : Nat → Nat → Nat} {x : Nat} {S : Ms} (M : Mm) (hX : RX B x S M) (hV : INV S) (o : Nat) (ko : kd M o = 290) (lo1 : ln M o = 1) (s : Int32) : CTH E yL_pull cL_pull 4 (some .int) [(0, 9, 12, 21)] 11 16 500 [.ref x, .int s, .ref o] M (fun r M' => r = some (.int (cPull S s)) ∧ (cPull S s = 0 → fL M' o 0 = (vPull S s).toInt64) ∧ agr TL M M' ∧ ∃ B', RX B' x (opS (cPull S s) S (sPull S s)) M') noX := by
  refine CTH.of rfl (Nat.le_of_ble_eq_true rfl) (fun X g hrt hhh hE hN hR => ?_)
  subst hE
  have k11 : kd M x % 1000 = 11 := by rw [hX.1.1]
  refine z_aload_n g dL_pull_0 rfl ?_
  refine z_iconst (v := 0) g dL_pull_1 (by decide) ?_
  refine z_aload_n g dL_pull_2 rfl ?_
  refine z_iload_n g dL_pull_3 rfl ?_
  refine z_callV g _ _ cv_L_108 (k_pull _ M hX hV s) k11 (by decide) rfl (by rw [hR]; decide) (by rw [hR]; decide) (by rw [hR]; decide) (Nat.le_of_ble_eq_true rfl) rfl dL_pull_4 (fun E9 M9 h9 => ?_) (fun r_9 M1 h_9 => ?_)
  · obtain ⟨rfl, h9⟩ := h9
    obtain ⟨e0, rfl⟩ := h9
    · refine zx_catch g hhh (tableOf []) ⟨0, 9, 12, 21⟩ (tableOf []) rfl (fun z hz => nomatch hz) (by decide) (show (21 : Nat) ≠ 0 by decide) hl_IOE hc_IOE (fun qq => ?_)
      refine z_astore_n g dL_pull_12 (by rw [hN]; decide) ?_
      refine z_iconst (v := 1) g dL_pull_13 (by decide) ?_
      exact z_iret g hrt (by decide) (by decide) (by decide) dL_pull_14 ⟨by rw [e0], fun z => absurd (e0.symm.trans z) (by decide), agr.rf, B, by rw [e0, opS_1]; exact RX_wi0 1 hX⟩
  obtain ⟨hc0, rfl, g1, B2, hX2⟩ := h_9
  have hV2 := I_Pull hV hc0
  obtain ⟨k1, l1⟩ := o_kl ko lo1 g1
  refine z_i2l g dL_pull_7 ?_
  refine z_lastk (k := 290) g k1 (by decide) (by rw [l1]; exact in01) dL_pull_8 ?_
  rw [show (0 : Int32).toNatClampNeg = 0 from rfl]
  have hO := put_o (v := (vPull S s).toInt64) ko g1 hX2 hV2
  refine z_goto (tgt := 15) g dL_pull_9 (by decide) ?_
  refine z_iconst (v := 0) g dL_pull_15 (by decide) ?_
  exact z_iret g hrt (by decide) (by decide) (by decide) dL_pull_16 ⟨by rw [hc0], fun _ => fL_s, hO.1, B2, by rw [hc0, opS_0]; exact hO.2⟩
set_option maxHeartbeats 4000000 in
set_option maxRecDepth 100000 in
theorem w_copy (E : Ev) {B : Nat → Nat → Nat} {x : Nat} {S : Ms} (M : Mm) (hX : RX B x S M) (hV : INV S) (o : Nat) (ko : kd M o = 290) (lo1 : ln M o = 1) (s : Int32) (f : Int32) (t : Int32) : CTH E yL_copy cL_copy 6 (some .int) [(0, 11, 14, 21)] 11 16 500 [.ref x, .int s, .int f, .int t, .ref o] M (fun r M' => r = some (.int (cCopy S s f t)) ∧ (cCopy S s f t = 0 → fL M' o 0 = vCopy S s f t) ∧ agr TL M M' ∧ ∃ B', RX B' x (opS (cCopy S s f t) S (sCopy S s f t)) M') noX := by
  refine CTH.of rfl (Nat.le_of_ble_eq_true rfl) (fun X g hrt hhh hE hN hR => ?_)
  subst hE
  have k11 : kd M x % 1000 = 11 := by rw [hX.1.1]
  refine z_aload g dL_copy_0 rfl ?_
  refine z_iconst (v := 0) g dL_copy_2 (by decide) ?_
  refine z_aload_n g dL_copy_3 rfl ?_
  refine z_iload_n g dL_copy_4 rfl ?_
  refine z_iload_n g dL_copy_5 rfl ?_
  refine z_iload_n g dL_copy_6 rfl ?_
  refine z_callV g _ _ cv_L_111 (k_copy _ M hX hV s f t) k11 (by decide) rfl (by rw [hR]; decide) (by rw [hR]; decide) (by rw [hR]; decide) (Nat.le_of_ble_eq_true rfl) rfl dL_copy_7 (fun E9 M9 h9 => ?_) (fun r_9 M1 h_9 => ?_)
  · obtain ⟨rfl, h9⟩ := h9
    obtain ⟨e0, rfl⟩ := h9
    · refine zx_catch g hhh (tableOf []) ⟨0, 11, 14, 21⟩ (tableOf []) rfl (fun z hz => nomatch hz) (by decide) (show (21 : Nat) ≠ 0 by decide) hl_IOE hc_IOE (fun qq => ?_)
      refine z_astore g dL_copy_14 (by rw [hN]; decide) ?_
      refine z_iconst (v := 1) g dL_copy_16 (by decide) ?_
      exact z_iret g hrt (by decide) (by decide) (by decide) dL_copy_17 ⟨by rw [e0], fun z => absurd (e0.symm.trans z) (by decide), agr.rf, B, by rw [e0, opS_1]; exact RX_wi0 1 hX⟩
  obtain ⟨hc0, rfl, g1, B2, hX2⟩ := h_9
  have hV2 := I_Copy hV hc0
  obtain ⟨k1, l1⟩ := o_kl ko lo1 g1
  refine z_lastk (k := 290) g k1 (by decide) (by rw [l1]; exact in01) dL_copy_10 ?_
  rw [show (0 : Int32).toNatClampNeg = 0 from rfl]
  have hO := put_o (v := vCopy S s f t) ko g1 hX2 hV2
  refine z_goto (tgt := 18) g dL_copy_11 (by decide) ?_
  refine z_iconst (v := 0) g dL_copy_18 (by decide) ?_
  exact z_iret g hrt (by decide) (by decide) (by decide) dL_copy_19 ⟨by rw [hc0], fun _ => fL_s, hO.1, B2, by rw [hc0, opS_0]; exact hO.2⟩
set_option maxHeartbeats 4000000 in
set_option maxRecDepth 100000 in
theorem w_order (E : Ev) {B : Nat → Nat → Nat} {x : Nat} {S : Ms} (M : Mm) (hX : RX B x S M) (hV : INV S) (o : Nat) (ko : kd M o = 290) (lo1 : ln M o = 1) (f : Int32) : CTH E yL_order cL_order 4 (some .int) [(0, 9, 12, 21), (0, 9, 15, 15)] 11 16 500 [.ref x, .int f, .ref o] M (fun r M' => r = some (.int (cOrder S f)) ∧ (cOrder S f = 0 → fL M' o 0 = (vOrder S f).toInt64) ∧ agr TL M M' ∧ ∃ B', RX B' x (opS (cOrder S f) S (sOrder S f)) M') noX := by
  refine CTH.of rfl (Nat.le_of_ble_eq_true rfl) (fun X g hrt hhh hE hN hR => ?_)
  subst hE
  have k11 : kd M x % 1000 = 11 := by rw [hX.1.1]
  refine z_aload_n g dL_order_0 rfl ?_
  refine z_iconst (v := 0) g dL_order_1 (by decide) ?_
  refine z_aload_n g dL_order_2 rfl ?_
  refine z_iload_n g dL_order_3 rfl ?_
  refine z_callV g _ _ cv_L_115 (k_order _ M hX hV f) k11 (by decide) rfl (by rw [hR]; decide) (by rw [hR]; decide) (by rw [hR]; decide) (Nat.le_of_ble_eq_true rfl) rfl dL_order_4 (fun E9 M9 h9 => ?_) (fun r_9 M1 h_9 => ?_)
  · obtain ⟨rfl, h9⟩ := h9
    rcases h9 with ⟨e0, rfl⟩ | ⟨e1, rfl⟩
    · refine zx_catch g hhh (tableOf []) ⟨0, 9, 12, 21⟩ (tableOf [(0, 9, 15, 15)]) rfl (fun z hz => nomatch hz) (by decide) (show (21 : Nat) ≠ 0 by decide) hl_IOE hc_IOE (fun qq => ?_)
      refine z_astore_n g dL_order_12 (by rw [hN]; decide) ?_
      refine z_iconst (v := 1) g dL_order_13 (by decide) ?_
      exact z_iret g hrt (by decide) (by decide) (by decide) dL_order_14 ⟨by rw [e0], fun z => absurd (e0.symm.trans z) (by decide), agr.rf, B, by rw [e0, opS_1]; exact RX_wi0 1 hX⟩
    · refine zx_catch g hhh (tableOf [(0, 9, 12, 21)]) ⟨0, 9, 15, 15⟩ (tableOf []) rfl (fun z hz => by
        simp only [tableOf, List.map, List.mem_cons, List.not_mem_nil, or_false] at hz
        subst hz
        · exact Or.inr ⟨(by decide : (21 : Nat) ≠ 0), IOE, hl_IOE, nc_ISE_IOE⟩) (by decide) (show (15 : Nat) ≠ 0 by decide) hl_ISE hc_ISE (fun qq => ?_)
      refine z_astore_n g dL_order_15 (by rw [hN]; decide) ?_
      refine z_iconst (v := 2) g dL_order_16 (by decide) ?_
      exact z_iret g hrt (by decide) (by decide) (by decide) dL_order_17 ⟨by rw [e1], fun z => absurd (e1.symm.trans z) (by decide), agr.rf, B, by rw [e1, opS_2]; exact RX_wi0 2 hX⟩
  obtain ⟨hc0, rfl, g1, B2, hX2⟩ := h_9
  have hV2 := I_Order hV hc0
  obtain ⟨k1, l1⟩ := o_kl ko lo1 g1
  refine z_i2l g dL_order_7 ?_
  refine z_lastk (k := 290) g k1 (by decide) (by rw [l1]; exact in01) dL_order_8 ?_
  rw [show (0 : Int32).toNatClampNeg = 0 from rfl]
  have hO := put_o (v := (vOrder S f).toInt64) ko g1 hX2 hV2
  refine z_goto (tgt := 18) g dL_order_9 (by decide) ?_
  refine z_iconst (v := 0) g dL_order_18 (by decide) ?_
  exact z_iret g hrt (by decide) (by decide) (by decide) dL_order_19 ⟨by rw [hc0], fun _ => fL_s, hO.1, B2, by rw [hc0, opS_0]; exact hO.2⟩
set_option maxHeartbeats 4000000 in
set_option maxRecDepth 100000 in
theorem w_budget (E : Ev) {B : Nat → Nat → Nat} {x : Nat} {S : Ms} (M : Mm) (hX : RX B x S M) (hV : INV S) (o : Nat) (ko : kd M o = 290) (lo1 : ln M o = 1) (v : Int32) : CTH E yL_budget cL_budget 4 (some .int) [(0, 9, 12, 13)] 11 16 500 [.ref x, .int v, .ref o] M (fun r M' => r = some (.int (cBudget S v)) ∧ (cBudget S v = 0 → fL M' o 0 = (vBudget S v).toInt64) ∧ agr TL M M' ∧ ∃ B', RX B' x (opS (cBudget S v) S (sBudget S v)) M') noX := by
  refine CTH.of rfl (Nat.le_of_ble_eq_true rfl) (fun X g hrt hhh hE hN hR => ?_)
  subst hE
  have k11 : kd M x % 1000 = 11 := by rw [hX.1.1]
  refine z_aload_n g dL_budget_0 rfl ?_
  refine z_iconst (v := 0) g dL_budget_1 (by decide) ?_
  refine z_aload_n g dL_budget_2 rfl ?_
  refine z_iload_n g dL_budget_3 rfl ?_
  refine z_callV g _ _ cv_L_118 (k_budget _ M hX hV v) k11 (by decide) rfl (by rw [hR]; decide) (by rw [hR]; decide) (by rw [hR]; decide) (Nat.le_of_ble_eq_true rfl) rfl dL_budget_4 (fun E9 M9 h9 => ?_) (fun r_9 M1 h_9 => ?_)
  · obtain ⟨rfl, h9⟩ := h9
    obtain ⟨e0, rfl⟩ := h9
    · refine zx_catch g hhh (tableOf []) ⟨0, 9, 12, 13⟩ (tableOf []) rfl (fun z hz => nomatch hz) (by decide) (show (13 : Nat) ≠ 0 by decide) hl_IAE hc_IAE (fun qq => ?_)
      refine z_astore_n g dL_budget_12 (by rw [hN]; decide) ?_
      refine z_iconst (v := 1) g dL_budget_13 (by decide) ?_
      exact z_iret g hrt (by decide) (by decide) (by decide) dL_budget_14 ⟨by rw [e0], fun z => absurd (e0.symm.trans z) (by decide), agr.rf, B, by rw [e0, opS_1]; exact RX_wi0 1 hX⟩
  obtain ⟨hc0, rfl, g1, B2, hX2⟩ := h_9
  have hV2 := I_Budget hV hc0
  obtain ⟨k1, l1⟩ := o_kl ko lo1 g1
  refine z_i2l g dL_budget_7 ?_
  refine z_lastk (k := 290) g k1 (by decide) (by rw [l1]; exact in01) dL_budget_8 ?_
  rw [show (0 : Int32).toNatClampNeg = 0 from rfl]
  have hO := put_o (v := (vBudget S v).toInt64) ko g1 hX2 hV2
  refine z_goto (tgt := 15) g dL_budget_9 (by decide) ?_
  refine z_iconst (v := 0) g dL_budget_15 (by decide) ?_
  exact z_iret g hrt (by decide) (by decide) (by decide) dL_budget_16 ⟨by rw [hc0], fun _ => fL_s, hO.1, B2, by rw [hc0, opS_0]; exact hO.2⟩
set_option maxHeartbeats 4000000 in
set_option maxRecDepth 100000 in
theorem w_sign (E : Ev) {B : Nat → Nat → Nat} {x : Nat} {S : Ms} (M : Mm) (hX : RX B x S M) (hV : INV S) (o : Nat) (ko : kd M o = 290) (lo1 : ln M o = 1) (f : Int32) : CTH E yL_sign cL_sign 4 (some .int) [(0, 8, 11, 21)] 11 16 500 [.ref x, .int f, .ref o] M (fun r M' => r = some (.int (cSign S f)) ∧ (cSign S f = 0 → fL M' o 0 = vSign S f) ∧ agr TL M M' ∧ ∃ B', RX B' x (opS (cSign S f) S (sSign S f)) M') noX := by
  refine CTH.of rfl (Nat.le_of_ble_eq_true rfl) (fun X g hrt hhh hE hN hR => ?_)
  subst hE
  have k11 : kd M x % 1000 = 11 := by rw [hX.1.1]
  refine z_aload_n g dL_sign_0 rfl ?_
  refine z_iconst (v := 0) g dL_sign_1 (by decide) ?_
  refine z_aload_n g dL_sign_2 rfl ?_
  refine z_iload_n g dL_sign_3 rfl ?_
  refine z_callV g _ _ cv_L_121 (k_sign _ M hX hV f) k11 (by decide) rfl (by rw [hR]; decide) (by rw [hR]; decide) (by rw [hR]; decide) (Nat.le_of_ble_eq_true rfl) rfl dL_sign_4 (fun E9 M9 h9 => ?_) (fun r_9 M1 h_9 => ?_)
  · obtain ⟨rfl, h9⟩ := h9
    obtain ⟨e0, rfl⟩ := h9
    · refine zx_catch g hhh (tableOf []) ⟨0, 8, 11, 21⟩ (tableOf []) rfl (fun z hz => nomatch hz) (by decide) (show (21 : Nat) ≠ 0 by decide) hl_IOE hc_IOE (fun qq => ?_)
      refine z_astore_n g dL_sign_11 (by rw [hN]; decide) ?_
      refine z_iconst (v := 1) g dL_sign_12 (by decide) ?_
      exact z_iret g hrt (by decide) (by decide) (by decide) dL_sign_13 ⟨by rw [e0], fun z => absurd (e0.symm.trans z) (by decide), agr.rf, B, by rw [e0, opS_1]; exact RX_wi0 1 hX⟩
  obtain ⟨hc0, rfl, g1, B2, hX2⟩ := h_9
  have hV2 := I_Sign hV hc0
  obtain ⟨k1, l1⟩ := o_kl ko lo1 g1
  refine z_lastk (k := 290) g k1 (by decide) (by rw [l1]; exact in01) dL_sign_7 ?_
  rw [show (0 : Int32).toNatClampNeg = 0 from rfl]
  have hO := put_o (v := vSign S f) ko g1 hX2 hV2
  refine z_goto (tgt := 14) g dL_sign_8 (by decide) ?_
  refine z_iconst (v := 0) g dL_sign_14 (by decide) ?_
  exact z_iret g hrt (by decide) (by decide) (by decide) dL_sign_15 ⟨by rw [hc0], fun _ => fL_s, hO.1, B2, by rw [hc0, opS_0]; exact hO.2⟩
set_option maxHeartbeats 4000000 in
set_option maxRecDepth 100000 in
theorem w_pass (E : Ev) {B : Nat → Nat → Nat} {x : Nat} {S : Ms} (M : Mm) (hX : RX B x S M) (hV : INV S) (o : Nat) (ko : kd M o = 290) (lo1 : ln M o = 1) (d : Int32) : CTH E yL_pass cL_pass 4 (some .int) [(0, 9, 12, 13), (0, 9, 15, 15)] 11 16 500 [.ref x, .int d, .ref o] M (fun r M' => r = some (.int (cPass S d)) ∧ (cPass S d = 0 → fL M' o 0 = (vPass S d).toInt64) ∧ agr TL M M' ∧ ∃ B', RX B' x (opS (cPass S d) S (sPass S d)) M') noX := by
  refine CTH.of rfl (Nat.le_of_ble_eq_true rfl) (fun X g hrt hhh hE hN hR => ?_)
  subst hE
  have k11 : kd M x % 1000 = 11 := by rw [hX.1.1]
  refine z_aload_n g dL_pass_0 rfl ?_
  refine z_iconst (v := 0) g dL_pass_1 (by decide) ?_
  refine z_aload_n g dL_pass_2 rfl ?_
  refine z_iload_n g dL_pass_3 rfl ?_
  refine z_callV g _ _ cv_L_125 (k_pass _ M hX hV d) k11 (by decide) rfl (by rw [hR]; decide) (by rw [hR]; decide) (by rw [hR]; decide) (Nat.le_of_ble_eq_true rfl) rfl dL_pass_4 (fun E9 M9 h9 => ?_) (fun r_9 M1 h_9 => ?_)
  · obtain ⟨rfl, h9⟩ := h9
    rcases h9 with ⟨e0, rfl⟩ | ⟨e1, rfl⟩
    · refine zx_catch g hhh (tableOf []) ⟨0, 9, 12, 13⟩ (tableOf [(0, 9, 15, 15)]) rfl (fun z hz => nomatch hz) (by decide) (show (13 : Nat) ≠ 0 by decide) hl_IAE hc_IAE (fun qq => ?_)
      refine z_astore_n g dL_pass_12 (by rw [hN]; decide) ?_
      refine z_iconst (v := 1) g dL_pass_13 (by decide) ?_
      exact z_iret g hrt (by decide) (by decide) (by decide) dL_pass_14 ⟨by rw [e0], fun z => absurd (e0.symm.trans z) (by decide), agr.rf, B, by rw [e0, opS_1]; exact RX_wi0 1 hX⟩
    · refine zx_catch g hhh (tableOf [(0, 9, 12, 13)]) ⟨0, 9, 15, 15⟩ (tableOf []) rfl (fun z hz => by
        simp only [tableOf, List.map, List.mem_cons, List.not_mem_nil, or_false] at hz
        subst hz
        · exact Or.inr ⟨(by decide : (13 : Nat) ≠ 0), IAE, hl_IAE, nc_ISE_IAE⟩) (by decide) (show (15 : Nat) ≠ 0 by decide) hl_ISE hc_ISE (fun qq => ?_)
      refine z_astore_n g dL_pass_15 (by rw [hN]; decide) ?_
      refine z_iconst (v := 2) g dL_pass_16 (by decide) ?_
      exact z_iret g hrt (by decide) (by decide) (by decide) dL_pass_17 ⟨by rw [e1], fun z => absurd (e1.symm.trans z) (by decide), agr.rf, B, by rw [e1, opS_2]; exact RX_wi0 2 hX⟩
  obtain ⟨hc0, rfl, g1, B2, hX2⟩ := h_9
  have hV2 := I_Pass hV hc0
  obtain ⟨k1, l1⟩ := o_kl ko lo1 g1
  refine z_i2l g dL_pass_7 ?_
  refine z_lastk (k := 290) g k1 (by decide) (by rw [l1]; exact in01) dL_pass_8 ?_
  rw [show (0 : Int32).toNatClampNeg = 0 from rfl]
  have hO := put_o (v := (vPass S d).toInt64) ko g1 hX2 hV2
  refine z_goto (tgt := 18) g dL_pass_9 (by decide) ?_
  refine z_iconst (v := 0) g dL_pass_18 (by decide) ?_
  exact z_iret g hrt (by decide) (by decide) (by decide) dL_pass_19 ⟨by rw [hc0], fun _ => fL_s, hO.1, B2, by rw [hc0, opS_0]; exact hO.2⟩
