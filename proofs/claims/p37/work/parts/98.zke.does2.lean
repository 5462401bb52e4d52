/-! ===== does, call by call (printed by gen/mk_does.py) ===== -/
set_option maxHeartbeats 4000000 in
set_option maxRecDepth 100000 in
theorem e_feature (E : Ev) {B : Nat → Nat → Nat} {x : Nat} {S : Ms} (M : Mm) (hX : RX B x S M) (hV : INV S) (a b c : Int32) (w : Int64) : CTH E yL_does cL_does 8 (some .long) [(0, 253, 254, 66), (0, 253, 260, 70), (0, 253, 266, 72)] 12 16 500 [.ref x, .int 0, .int a, .int b, .int c, .long w] M (DP x M (g_feature a b c w S)) noX := by
  refine CTH.of rfl (Nat.le_of_ble_eq_true rfl) (fun X g hrt hhh hE hN hR => ?_)
  subst hE
  have k11 : kd M x % 1000 = 11 := by rw [hX.1.1]
  refine z_iload_n g dL_does_0 rfl ?_
  refine z_bipush (v := 8) g dL_does_1 (by decide) ?_
  refine z_icmp_ge (tgt := 20) g dL_does_3 (by decide) (fun c_3 => absurd c_3 (by decide)) (fun _ => ?_)
  refine z_aload_n g dL_does_6 rfl ?_
  refine z_iload_n g dL_does_7 rfl ?_
  refine z_iload_n g dL_does_8 rfl ?_
  refine z_iload_n g dL_does_9 rfl ?_
  refine z_iload g dL_does_10 rfl ?_
  refine z_lload g dL_does_12 rfl ?_
  refine z_callS g _ _ cs_L_8 (l_feature _ M hX hV a b c w) rfl (by rw [hR]; decide) (by rw [hR]; decide) (by rw [hR]; decide) (Nat.le_of_ble_eq_true rfl) rfl dL_does_14 (fun E9 M9 h9 => ?_) (fun r_9 M1 h_9 => ?_)
  · obtain ⟨rfl, h9⟩ := h9
    rcases h9 with ⟨e0, rfl⟩ | ⟨e1, rfl⟩
    · refine zx_catch g hhh (tableOf [(0, 253, 254, 66)]) ⟨0, 253, 260, 70⟩ (tableOf [(0, 253, 266, 72)]) rfl (fun z hz => by
        simp only [tableOf, List.map, List.mem_cons, List.not_mem_nil, or_false] at hz
        subst hz
        · exact Or.inr ⟨(by decide : (66 : Nat) ≠ 0), IOE, hl_IOE, nc_IAE_IOE⟩) (by decide) (show (70 : Nat) ≠ 0 by decide) hl_IAE hc_IAE (fun qq => ?_)
      refine z_astore g dL_does_260 (by rw [hN]; decide) ?_
      refine z_ldc2 g dL_does_262 kc_L_68 ?_
      exact z_lret g hrt (by decide) (by decide) dL_does_265 (dp_x hX (fun h => by rw [e0] at h; exact absurd h (by decide)))
    · refine zx_catch g hhh (tableOf [(0, 253, 254, 66), (0, 253, 260, 70)]) ⟨0, 253, 266, 72⟩ (tableOf []) rfl (fun z hz => by
        simp only [tableOf, List.map, List.mem_cons, List.not_mem_nil, or_false] at hz
        rcases hz with rfl | rfl
        · exact Or.inr ⟨(by decide : (66 : Nat) ≠ 0), IOE, hl_IOE, nc_ISE_IOE⟩
        · exact Or.inr ⟨(by decide : (70 : Nat) ≠ 0), IAE, hl_IAE, nc_ISE_IAE⟩) (by decide) (show (72 : Nat) ≠ 0 by decide) hl_ISE hc_ISE (fun qq => ?_)
      refine z_astore g dL_does_266 (by rw [hN]; decide) ?_
      refine z_ldc2 g dL_does_268 kc_L_68 ?_
      exact z_lret g hrt (by decide) (by decide) dL_does_271 (dp_x hX (fun h => by rw [e1] at h; exact absurd h (by decide)))
  obtain ⟨hc0, rfl, g1, B2, hX2⟩ := h_9
  refine z_goto (tgt := 253) g dL_does_17 (by decide) ?_
  exact z_lret g hrt (by decide) (by decide) dL_does_253 (dp_0 hc0 g1 hX2)
set_option maxHeartbeats 4000000 in
set_option maxRecDepth 100000 in
theorem e_move (E : Ev) {B : Nat → Nat → Nat} {x : Nat} {S : Ms} (M : Mm) (hX : RX B x S M) (hV : INV S) (a b c : Int32) (w : Int64) : CTH E yL_does cL_does 8 (some .long) [(0, 253, 254, 66), (0, 253, 260, 70), (0, 253, 266, 72)] 12 16 500 [.ref x, .int 1, .int a, .int b, .int c, .long w] M (DP x M (g_move a b c w S)) noX := by
  refine CTH.of rfl (Nat.le_of_ble_eq_true rfl) (fun X g hrt hhh hE hN hR => ?_)
  subst hE
  have k11 : kd M x % 1000 = 11 := by rw [hX.1.1]
  refine z_iload_n g dL_does_0 rfl ?_
  refine z_bipush (v := 8) g dL_does_1 (by decide) ?_
  refine z_icmp_ge (tgt := 20) g dL_does_3 (by decide) (fun c_3 => absurd c_3 (by decide)) (fun _ => ?_)
  refine z_aload_n g dL_does_6 rfl ?_
  refine z_iload_n g dL_does_7 rfl ?_
  refine z_iload_n g dL_does_8 rfl ?_
  refine z_iload_n g dL_does_9 rfl ?_
  refine z_iload g dL_does_10 rfl ?_
  refine z_lload g dL_does_12 rfl ?_
  refine z_callS g _ _ cs_L_8 (l_move _ M hX hV a b c w) rfl (by rw [hR]; decide) (by rw [hR]; decide) (by rw [hR]; decide) (Nat.le_of_ble_eq_true rfl) rfl dL_does_14 (fun E9 M9 h9 => ?_) (fun r_9 M1 h_9 => ?_)
  · obtain ⟨rfl, h9⟩ := h9
    rcases h9 with ⟨e0, rfl⟩ | ⟨e1, rfl⟩ | ⟨e2, rfl⟩
    · refine zx_catch g hhh (tableOf []) ⟨0, 253, 254, 66⟩ (tableOf [(0, 253, 260, 70), (0, 253, 266, 72)]) rfl (fun z hz => nomatch hz) (by decide) (show (66 : Nat) ≠ 0 by decide) hl_IOE hc_IOE (fun qq => ?_)
      refine z_astore g dL_does_254 (by rw [hN]; decide) ?_
      refine z_ldc2 g dL_does_256 kc_L_68 ?_
      exact z_lret g hrt (by decide) (by decide) dL_does_259 (dp_x hX (fun h => by rw [e0] at h; exact absurd h (by decide)))
    · refine zx_catch g hhh (tableOf [(0, 253, 254, 66)]) ⟨0, 253, 260, 70⟩ (tableOf [(0, 253, 266, 72)]) rfl (fun z hz => by
        simp only [tableOf, List.map, List.mem_cons, List.not_mem_nil, or_false] at hz
        subst hz
        · exact Or.inr ⟨(by decide : (66 : Nat) ≠ 0), IOE, hl_IOE, nc_IAE_IOE⟩) (by decide) (show (70 : Nat) ≠ 0 by decide) hl_IAE hc_IAE (fun qq => ?_)
      refine z_astore g dL_does_260 (by rw [hN]; decide) ?_
      refine z_ldc2 g dL_does_262 kc_L_68 ?_
      exact z_lret g hrt (by decide) (by decide) dL_does_265 (dp_x hX (fun h => by rw [e1] at h; exact absurd h (by decide)))
    · refine zx_catch g hhh (tableOf [(0, 253, 254, 66), (0, 253, 260, 70)]) ⟨0, 253, 266, 72⟩ (tableOf []) rfl (fun z hz => by
        simp only [tableOf, List.map, List.mem_cons, List.not_mem_nil, or_false] at hz
        rcases hz with rfl | rfl
        · exact Or.inr ⟨(by decide : (66 : Nat) ≠ 0), IOE, hl_IOE, nc_ISE_IOE⟩
        · exact Or.inr ⟨(by decide : (70 : Nat) ≠ 0), IAE, hl_IAE, nc_ISE_IAE⟩) (by decide) (show (72 : Nat) ≠ 0 by decide) hl_ISE hc_ISE (fun qq => ?_)
      refine z_astore g dL_does_266 (by rw [hN]; decide) ?_
      refine z_ldc2 g dL_does_268 kc_L_68 ?_
      exact z_lret g hrt (by decide) (by decide) dL_does_271 (dp_x hX (fun h => by rw [e2] at h; exact absurd h (by decide)))
  obtain ⟨hc0, rfl, g1, B2, hX2⟩ := h_9
  refine z_goto (tgt := 253) g dL_does_17 (by decide) ?_
  exact z_lret g hrt (by decide) (by decide) dL_does_253 (dp_0 hc0 g1 hX2)
set_option maxHeartbeats 4000000 in
set_option maxRecDepth 100000 in
theorem e_part (E : Ev) {B : Nat → Nat → Nat} {x : Nat} {S : Ms} (M : Mm) (hX : RX B x S M) (hV : INV S) (a b c : Int32) (w : Int64) : CTH E yL_does cL_does 8 (some .long) [(0, 253, 254, 66), (0, 253, 260, 70), (0, 253, 266, 72)] 12 16 500 [.ref x, .int 2, .int a, .int b, .int c, .long w] M (DP x M (g_part a b c w S)) noX := by
  refine CTH.of rfl (Nat.le_of_ble_eq_true rfl) (fun X g hrt hhh hE hN hR => ?_)
  subst hE
  have k11 : kd M x % 1000 = 11 := by rw [hX.1.1]
  refine z_iload_n g dL_does_0 rfl ?_
  refine z_bipush (v := 8) g dL_does_1 (by decide) ?_
  refine z_icmp_ge (tgt := 20) g dL_does_3 (by decide) (fun c_3 => absurd c_3 (by decide)) (fun _ => ?_)
  refine z_aload_n g dL_does_6 rfl ?_
  refine z_iload_n g dL_does_7 rfl ?_
  refine z_iload_n g dL_does_8 rfl ?_
  refine z_iload_n g dL_does_9 rfl ?_
  refine z_iload g dL_does_10 rfl ?_
  refine z_lload g dL_does_12 rfl ?_
  refine z_callS g _ _ cs_L_8 (l_part _ M hX hV a b c w) rfl (by rw [hR]; decide) (by rw [hR]; decide) (by rw [hR]; decide) (Nat.le_of_ble_eq_true rfl) rfl dL_does_14 (fun E9 M9 h9 => ?_) (fun r_9 M1 h_9 => ?_)
  · obtain ⟨rfl, h9⟩ := h9
    rcases h9 with ⟨e0, rfl⟩ | ⟨e1, rfl⟩ | ⟨e2, rfl⟩
    · refine zx_catch g hhh (tableOf []) ⟨0, 253, 254, 66⟩ (tableOf [(0, 253, 260, 70), (0, 253, 266, 72)]) rfl (fun z hz => nomatch hz) (by decide) (show (66 : Nat) ≠ 0 by decide) hl_IOE hc_IOE (fun qq => ?_)
      refine z_astore g dL_does_254 (by rw [hN]; decide) ?_
      refine z_ldc2 g dL_does_256 kc_L_68 ?_
      exact z_lret g hrt (by decide) (by decide) dL_does_259 (dp_x hX (fun h => by rw [e0] at h; exact absurd h (by decide)))
    · refine zx_catch g hhh (tableOf [(0, 253, 254, 66)]) ⟨0, 253, 260, 70⟩ (tableOf [(0, 253, 266, 72)]) rfl (fun z hz => by
        simp only [tableOf, List.map, List.mem_cons, List.not_mem_nil, or_false] at hz
        subst hz
        · exact Or.inr ⟨(by decide : (66 : Nat) ≠ 0), IOE, hl_IOE, nc_IAE_IOE⟩) (by decide) (show (70 : Nat) ≠ 0 by decide) hl_IAE hc_IAE (fun qq => ?_)
      refine z_astore g dL_does_260 (by rw [hN]; decide) ?_
      refine z_ldc2 g dL_does_262 kc_L_68 ?_
      exact z_lret g hrt (by decide) (by decide) dL_does_265 (dp_x hX (fun h => by rw [e1] at h; exact absurd h (by decide)))
    · refine zx_catch g hhh (tableOf [(0, 253, 254, 66), (0, 253, 260, 70)]) ⟨0, 253, 266, 72⟩ (tableOf []) rfl (fun z hz => by
        simp only [tableOf, List.map, List.mem_cons, List.not_mem_nil, or_false] at hz
        rcases hz with rfl | rfl
        · exact Or.inr ⟨(by decide : (66 : Nat) ≠ 0), IOE, hl_IOE, nc_ISE_IOE⟩
        · exact Or.inr ⟨(by decide : (70 : Nat) ≠ 0), IAE, hl_IAE, nc_ISE_IAE⟩) (by decide) (show (72 : Nat) ≠ 0 by decide) hl_ISE hc_ISE (fun qq => ?_)
      refine z_astore g dL_does_266 (by rw [hN]; decide) ?_
      refine z_ldc2 g dL_does_268 kc_L_68 ?_
      exact z_lret g hrt (by decide) (by decide) dL_does_271 (dp_x hX (fun h => by rw [e2] at h; exact absurd h (by decide)))
  obtain ⟨hc0, rfl, g1, B2, hX2⟩ := h_9
  refine z_goto (tgt := 253) g dL_does_17 (by decide) ?_
  exact z_lret g hrt (by decide) (by decide) dL_does_253 (dp_0 hc0 g1 hX2)
set_option maxHeartbeats 4000000 in
set_option maxRecDepth 100000 in
theorem e_end (E : Ev) {B : Nat → Nat → Nat} {x : Nat} {S : Ms} (M : Mm) (hX : RX B x S M) (hV : INV S) (a b c : Int32) (w : Int64) : CTH E yL_does cL_does 8 (some .long) [(0, 253, 254, 66), (0, 253, 260, 70), (0, 253, 266, 72)] 12 16 500 [.ref x, .int 3, .int a, .int b, .int c, .long w] M (DP x M (g_end a b c w S)) noX := by
  refine CTH.of rfl (Nat.le_of_ble_eq_true rfl) (fun X g hrt hhh hE hN hR => ?_)
  subst hE
  have k11 : kd M x % 1000 = 11 := by rw [hX.1.1]
  refine z_iload_n g dL_does_0 rfl ?_
  refine z_bipush (v := 8) g dL_does_1 (by decide) ?_
  refine z_icmp_ge (tgt := 20) g dL_does_3 (by decide) (fun c_3 => absurd c_3 (by decide)) (fun _ => ?_)
  refine z_aload_n g dL_does_6 rfl ?_
  refine z_iload_n g dL_does_7 rfl ?_
  refine z_iload_n g dL_does_8 rfl ?_
  refine z_iload_n g dL_does_9 rfl ?_
  refine z_iload g dL_does_10 rfl ?_
  refine z_lload g dL_does_12 rfl ?_
  refine z_callS g _ _ cs_L_8 (l_end _ M hX hV a b c w) rfl (by rw [hR]; decide) (by rw [hR]; decide) (by rw [hR]; decide) (Nat.le_of_ble_eq_true rfl) rfl dL_does_14 (fun E9 M9 h9 => ?_) (fun r_9 M1 h_9 => ?_)
  · obtain ⟨rfl, h9⟩ := h9
    rcases h9 with ⟨e0, rfl⟩ | ⟨e1, rfl⟩ | ⟨e2, rfl⟩
    · refine zx_catch g hhh (tableOf []) ⟨0, 253, 254, 66⟩ (tableOf [(0, 253, 260, 70), (0, 253, 266, 72)]) rfl (fun z hz => nomatch hz) (by decide) (show (66 : Nat) ≠ 0 by decide) hl_IOE hc_IOE (fun qq => ?_)
      refine z_astore g dL_does_254 (by rw [hN]; decide) ?_
      refine z_ldc2 g dL_does_256 kc_L_68 ?_
      exact z_lret g hrt (by decide) (by decide) dL_does_259 (dp_x hX (fun h => by rw [e0] at h; exact absurd h (by decide)))
    · refine zx_catch g hhh (tableOf [(0, 253, 254, 66)]) ⟨0, 253, 260, 70⟩ (tableOf [(0, 253, 266, 72)]) rfl (fun z hz => by
        simp only [tableOf, List.map, List.mem_cons, List.not_mem_nil, or_false] at hz
        subst hz
        · exact Or.inr ⟨(by decide : (66 : Nat) ≠ 0), IOE, hl_IOE, nc_IAE_IOE⟩) (by decide) (show (70 : Nat) ≠ 0 by decide) hl_IAE hc_IAE (fun qq => ?_)
      refine z_astore g dL_does_260 (by rw [hN]; decide) ?_
      refine z_ldc2 g dL_does_262 kc_L_68 ?_
      exact z_lret g hrt (by decide) (by decide) dL_does_265 (dp_x hX (fun h => by rw [e1] at h; exact absurd h (by decide)))
    · refine zx_catch g hhh (tableOf [(0, 253, 254, 66), (0, 253, 260, 70)]) ⟨0, 253, 266, 72⟩ (tableOf []) rfl (fun z hz => by
        simp only [tableOf, List.map, List.mem_cons, List.not_mem_nil, or_false] at hz
        rcases hz with rfl | rfl
        · exact Or.inr ⟨(by decide : (66 : Nat) ≠ 0), IOE, hl_IOE, nc_ISE_IOE⟩
        · exact Or.inr ⟨(by decide : (70 : Nat) ≠ 0), IAE, hl_IAE, nc_ISE_IAE⟩) (by decide) (show (72 : Nat) ≠ 0 by decide) hl_ISE hc_ISE (fun qq => ?_)
      refine z_astore g dL_does_266 (by rw [hN]; decide) ?_
      refine z_ldc2 g dL_does_268 kc_L_68 ?_
      exact z_lret g hrt (by decide) (by decide) dL_does_271 (dp_x hX (fun h => by rw [e2] at h; exact absurd h (by decide)))
  obtain ⟨hc0, rfl, g1, B2, hX2⟩ := h_9
  refine z_goto (tgt := 253) g dL_does_17 (by decide) ?_
  exact z_lret g hrt (by decide) (by decide) dL_does_253 (dp_0 hc0 g1 hX2)
set_option maxHeartbeats 4000000 in
set_option maxRecDepth 100000 in
theorem e_of (E : Ev) {B : Nat → Nat → Nat} {x : Nat} {S : Ms} (M : Mm) (hX : RX B x S M) (hV : INV S) (a b c : Int32) (w : Int64) : CTH E yL_does cL_does 8 (some .long) [(0, 253, 254, 66), (0, 253, 260, 70), (0, 253, 266, 72)] 12 16 500 [.ref x, .int 4, .int a, .int b, .int c, .long w] M (DP x M (g_of a b c w S)) noX := by
  refine CTH.of rfl (Nat.le_of_ble_eq_true rfl) (fun X g hrt hhh hE hN hR => ?_)
  subst hE
  have k11 : kd M x % 1000 = 11 := by rw [hX.1.1]
  refine z_iload_n g dL_does_0 rfl ?_
  refine z_bipush (v := 8) g dL_does_1 (by decide) ?_
  refine z_icmp_ge (tgt := 20) g dL_does_3 (by decide) (fun c_3 => absurd c_3 (by decide)) (fun _ => ?_)
  refine z_aload_n g dL_does_6 rfl ?_
  refine z_iload_n g dL_does_7 rfl ?_
  refine z_iload_n g dL_does_8 rfl ?_
  refine z_iload_n g dL_does_9 rfl ?_
  refine z_iload g dL_does_10 rfl ?_
  refine z_lload g dL_does_12 rfl ?_
  refine z_callS g _ _ cs_L_8 (l_of _ M hX hV a b c w) rfl (by rw [hR]; decide) (by rw [hR]; decide) (by rw [hR]; decide) (Nat.le_of_ble_eq_true rfl) rfl dL_does_14 (fun E9 M9 h9 => ?_) (fun r_9 M1 h_9 => ?_)
  · obtain ⟨rfl, h9⟩ := h9
    rcases h9 with ⟨e0, rfl⟩ | ⟨e1, rfl⟩
    · refine zx_catch g hhh (tableOf []) ⟨0, 253, 254, 66⟩ (tableOf [(0, 253, 260, 70), (0, 253, 266, 72)]) rfl (fun z hz => nomatch hz) (by decide) (show (66 : Nat) ≠ 0 by decide) hl_IOE hc_IOE (fun qq => ?_)
      refine z_astore g dL_does_254 (by rw [hN]; decide) ?_
      refine z_ldc2 g dL_does_256 kc_L_68 ?_
      exact z_lret g hrt (by decide) (by decide) dL_does_259 (dp_x hX (fun h => by rw [e0] at h; exact absurd h (by decide)))
    · refine zx_catch g hhh (tableOf [(0, 253, 254, 66)]) ⟨0, 253, 260, 70⟩ (tableOf [(0, 253, 266, 72)]) rfl (fun z hz => by
        simp only [tableOf, List.map, List.mem_cons, List.not_mem_nil, or_false] at hz
        subst hz
        · exact Or.inr ⟨(by decide : (66 : Nat) ≠ 0), IOE, hl_IOE, nc_IAE_IOE⟩) (by decide) (show (70 : Nat) ≠ 0 by decide) hl_IAE hc_IAE (fun qq => ?_)
      refine z_astore g dL_does_260 (by rw [hN]; decide) ?_
      refine z_ldc2 g dL_does_262 kc_L_68 ?_
      exact z_lret g hrt (by decide) (by decide) dL_does_265 (dp_x hX (fun h => by rw [e1] at h; exact absurd h (by decide)))
  obtain ⟨hc0, rfl, g1, B2, hX2⟩ := h_9
  refine z_goto (tgt := 253) g dL_does_17 (by decide) ?_
  exact z_lret g hrt (by decide) (by decide) dL_does_253 (dp_0 hc0 g1 hX2)
set_option maxHeartbeats 4000000 in
set_option maxRecDepth 100000 in
theorem e_name (E : Ev) {B : Nat → Nat → Nat} {x : Nat} {S : Ms} (M : Mm) (hX : RX B x S M) (hV : INV S) (a b c : Int32) (w : Int64) : CTH E yL_does cL_does 8 (some .long) [(0, 253, 254, 66), (0, 253, 260, 70), (0, 253, 266, 72)] 12 16 500 [.ref x, .int 5, .int a, .int b, .int c, .long w] M (DP x M (g_name a b c w S)) noX := by
  refine CTH.of rfl (Nat.le_of_ble_eq_true rfl) (fun X g hrt hhh hE hN hR => ?_)
  subst hE
  have k11 : kd M x % 1000 = 11 := by rw [hX.1.1]
  refine z_iload_n g dL_does_0 rfl ?_
  refine z_bipush (v := 8) g dL_does_1 (by decide) ?_
  refine z_icmp_ge (tgt := 20) g dL_does_3 (by decide) (fun c_3 => absurd c_3 (by decide)) (fun _ => ?_)
  refine z_aload_n g dL_does_6 rfl ?_
  refine z_iload_n g dL_does_7 rfl ?_
  refine z_iload_n g dL_does_8 rfl ?_
  refine z_iload_n g dL_does_9 rfl ?_
  refine z_iload g dL_does_10 rfl ?_
  refine z_lload g dL_does_12 rfl ?_
  refine z_callS g _ _ cs_L_8 (l_name _ M hX hV a b c w) rfl (by rw [hR]; decide) (by rw [hR]; decide) (by rw [hR]; decide) (Nat.le_of_ble_eq_true rfl) rfl dL_does_14 (fun E9 M9 h9 => ?_) (fun r_9 M1 h_9 => ?_)
  · obtain ⟨rfl, h9⟩ := h9
    rcases h9 with ⟨e0, rfl⟩ | ⟨e1, rfl⟩ | ⟨e2, rfl⟩
    · refine zx_catch g hhh (tableOf []) ⟨0, 253, 254, 66⟩ (tableOf [(0, 253, 260, 70), (0, 253, 266, 72)]) rfl (fun z hz => nomatch hz) (by decide) (show (66 : Nat) ≠ 0 by decide) hl_IOE hc_IOE (fun qq => ?_)
      refine z_astore g dL_does_254 (by rw [hN]; decide) ?_
      refine z_ldc2 g dL_does_256 kc_L_68 ?_
      exact z_lret g hrt (by decide) (by decide) dL_does_259 (dp_x hX (fun h => by rw [e0] at h; exact absurd h (by decide)))
    · refine zx_catch g hhh (tableOf [(0, 253, 254, 66)]) ⟨0, 253, 260, 70⟩ (tableOf [(0, 253, 266, 72)]) rfl (fun z hz => by
        simp only [tableOf, List.map, List.mem_cons, List.not_mem_nil, or_false] at hz
        subst hz
        · exact Or.inr ⟨(by decide : (66 : Nat) ≠ 0), IOE, hl_IOE, nc_IAE_IOE⟩) (by decide) (show (70 : Nat) ≠ 0 by decide) hl_IAE hc_IAE (fun qq => ?_)
      refine z_astore g dL_does_260 (by rw [hN]; decide) ?_
      refine z_ldc2 g dL_does_262 kc_L_68 ?_
      exact z_lret g hrt (by decide) (by decide) dL_does_265 (dp_x hX (fun h => by rw [e1] at h; exact absurd h (by decide)))
    · refine zx_catch g hhh (tableOf [(0, 253, 254, 66), (0, 253, 260, 70)]) ⟨0, 253, 266, 72⟩ (tableOf []) rfl (fun z hz => by
        simp only [tableOf, List.map, List.mem_cons, List.not_mem_nil, or_false] at hz
        rcases hz with rfl | rfl
        · exact Or.inr ⟨(by decide : (66 : Nat) ≠ 0), IOE, hl_IOE, nc_ISE_IOE⟩
        · exact Or.inr ⟨(by decide : (70 : Nat) ≠ 0), IAE, hl_IAE, nc_ISE_IAE⟩) (by decide) (show (72 : Nat) ≠ 0 by decide) hl_ISE hc_ISE (fun qq => ?_)
      refine z_astore g dL_does_266 (by rw [hN]; decide) ?_
      refine z_ldc2 g dL_does_268 kc_L_68 ?_
      exact z_lret g hrt (by decide) (by decide) dL_does_271 (dp_x hX (fun h => by rw [e2] at h; exact absurd h (by decide)))
  obtain ⟨hc0, rfl, g1, B2, hX2⟩ := h_9
  refine z_goto (tgt := 253) g dL_does_17 (by decide) ?_
  exact z_lret g hrt (by decide) (by decide) dL_does_253 (dp_0 hc0 g1 hX2)
set_option maxHeartbeats 4000000 in
set_option maxRecDepth 100000 in
theorem e_law (E : Ev) {B : Nat → Nat → Nat} {x : Nat} {S : Ms} (M : Mm) (hX : RX B x S M) (hV : INV S) (a b c : Int32) (w : Int64) : CTH E yL_does cL_does 8 (some .long) [(0, 253, 254, 66), (0, 253, 260, 70), (0, 253, 266, 72)] 12 16 500 [.ref x, .int 6, .int a, .int b, .int c, .long w] M (DP x M (g_law a b c w S)) noX := by
  refine CTH.of rfl (Nat.le_of_ble_eq_true rfl) (fun X g hrt hhh hE hN hR => ?_)
  subst hE
  have k11 : kd M x % 1000 = 11 := by rw [hX.1.1]
  refine z_iload_n g dL_does_0 rfl ?_
  refine z_bipush (v := 8) g dL_does_1 (by decide) ?_
  refine z_icmp_ge (tgt := 20) g dL_does_3 (by decide) (fun c_3 => absurd c_3 (by decide)) (fun _ => ?_)
  refine z_aload_n g dL_does_6 rfl ?_
  refine z_iload_n g dL_does_7 rfl ?_
  refine z_iload_n g dL_does_8 rfl ?_
  refine z_iload_n g dL_does_9 rfl ?_
  refine z_iload g dL_does_10 rfl ?_
  refine z_lload g dL_does_12 rfl ?_
  refine z_callS g _ _ cs_L_8 (l_law _ M hX hV a b c w) rfl (by rw [hR]; decide) (by rw [hR]; decide) (by rw [hR]; decide) (Nat.le_of_ble_eq_true rfl) rfl dL_does_14 (fun E9 M9 h9 => ?_) (fun r_9 M1 h_9 => ?_)
  · obtain ⟨rfl, h9⟩ := h9
    rcases h9 with ⟨e0, rfl⟩ | ⟨e1, rfl⟩ | ⟨e2, rfl⟩
    · refine zx_catch g hhh (tableOf []) ⟨0, 253, 254, 66⟩ (tableOf [(0, 253, 260, 70), (0, 253, 266, 72)]) rfl (fun z hz => nomatch hz) (by decide) (show (66 : Nat) ≠ 0 by decide) hl_IOE hc_IOE (fun qq => ?_)
      refine z_astore g dL_does_254 (by rw [hN]; decide) ?_
      refine z_ldc2 g dL_does_256 kc_L_68 ?_
      exact z_lret g hrt (by decide) (by decide) dL_does_259 (dp_x hX (fun h => by rw [e0] at h; exact absurd h (by decide)))
    · refine zx_catch g hhh (tableOf [(0, 253, 254, 66)]) ⟨0, 253, 260, 70⟩ (tableOf [(0, 253, 266, 72)]) rfl (fun z hz => by
        simp only [tableOf, List.map, List.mem_cons, List.not_mem_nil, or_false] at hz
        subst hz
        · exact Or.inr ⟨(by decide : (66 : Nat) ≠ 0), IOE, hl_IOE, nc_IAE_IOE⟩) (by decide) (show (70 : Nat) ≠ 0 by decide) hl_IAE hc_IAE (fun qq => ?_)
      refine z_astore g dL_does_260 (by rw [hN]; decide) ?_
      refine z_ldc2 g dL_does_262 kc_L_68 ?_
      exact z_lret g hrt (by decide) (by decide) dL_does_265 (dp_x hX (fun h => by rw [e1] at h; exact absurd h (by decide)))
    · refine zx_catch g hhh (tableOf [(0, 253, 254, 66), (0, 253, 260, 70)]) ⟨0, 253, 266, 72⟩ (tableOf []) rfl (fun z hz => by
        simp only [tableOf, List.map, List.mem_cons, List.not_mem_nil, or_false] at hz
        rcases hz with rfl | rfl
        · exact Or.inr ⟨(by decide : (66 : Nat) ≠ 0), IOE, hl_IOE, nc_ISE_IOE⟩
        · exact Or.inr ⟨(by decide : (70 : Nat) ≠ 0), IAE, hl_IAE, nc_ISE_IAE⟩) (by decide) (show (72 : Nat) ≠ 0 by decide) hl_ISE hc_ISE (fun qq => ?_)
      refine z_astore g dL_does_266 (by rw [hN]; decide) ?_
      refine z_ldc2 g dL_does_268 kc_L_68 ?_
      exact z_lret g hrt (by decide) (by decide) dL_does_271 (dp_x hX (fun h => by rw [e2] at h; exact absurd h (by decide)))
  obtain ⟨hc0, rfl, g1, B2, hX2⟩ := h_9
  refine z_goto (tgt := 253) g dL_does_17 (by decide) ?_
  exact z_lret g hrt (by decide) (by decide) dL_does_253 (dp_0 hc0 g1 hX2)
set_option maxHeartbeats 4000000 in
set_option maxRecDepth 100000 in
theorem e_except (E : Ev) {B : Nat → Nat → Nat} {x : Nat} {S : Ms} (M : Mm) (hX : RX B x S M) (hV : INV S) (a b c : Int32) (w : Int64) : CTH E yL_does cL_does 8 (some .long) [(0, 253, 254, 66), (0, 253, 260, 70), (0, 253, 266, 72)] 12 16 500 [.ref x, .int 7, .int a, .int b, .int c, .long w] M (DP x M (g_except a b c w S)) noX := by
  refine CTH.of rfl (Nat.le_of_ble_eq_true rfl) (fun X g hrt hhh hE hN hR => ?_)
  subst hE
  have k11 : kd M x % 1000 = 11 := by rw [hX.1.1]
  refine z_iload_n g dL_does_0 rfl ?_
  refine z_bipush (v := 8) g dL_does_1 (by decide) ?_
  refine z_icmp_ge (tgt := 20) g dL_does_3 (by decide) (fun c_3 => absurd c_3 (by decide)) (fun _ => ?_)
  refine z_aload_n g dL_does_6 rfl ?_
  refine z_iload_n g dL_does_7 rfl ?_
  refine z_iload_n g dL_does_8 rfl ?_
  refine z_iload_n g dL_does_9 rfl ?_
  refine z_iload g dL_does_10 rfl ?_
  refine z_lload g dL_does_12 rfl ?_
  refine z_callS g _ _ cs_L_8 (l_except _ M hX hV a b c w) rfl (by rw [hR]; decide) (by rw [hR]; decide) (by rw [hR]; decide) (Nat.le_of_ble_eq_true rfl) rfl dL_does_14 (fun E9 M9 h9 => ?_) (fun r_9 M1 h_9 => ?_)
  · obtain ⟨rfl, h9⟩ := h9
    rcases h9 with ⟨e0, rfl⟩ | ⟨e1, rfl⟩ | ⟨e2, rfl⟩
    · refine zx_catch g hhh (tableOf []) ⟨0, 253, 254, 66⟩ (tableOf [(0, 253, 260, 70), (0, 253, 266, 72)]) rfl (fun z hz => nomatch hz) (by decide) (show (66 : Nat) ≠ 0 by decide) hl_IOE hc_IOE (fun qq => ?_)
      refine z_astore g dL_does_254 (by rw [hN]; decide) ?_
      refine z_ldc2 g dL_does_256 kc_L_68 ?_
      exact z_lret g hrt (by decide) (by decide) dL_does_259 (dp_x hX (fun h => by rw [e0] at h; exact absurd h (by decide)))
    · refine zx_catch g hhh (tableOf [(0, 253, 254, 66)]) ⟨0, 253, 260, 70⟩ (tableOf [(0, 253, 266, 72)]) rfl (fun z hz => by
        simp only [tableOf, List.map, List.mem_cons, List.not_mem_nil, or_false] at hz
        subst hz
        · exact Or.inr ⟨(by decide : (66 : Nat) ≠ 0), IOE, hl_IOE, nc_IAE_IOE⟩) (by decide) (show (70 : Nat) ≠ 0 by decide) hl_IAE hc_IAE (fun qq => ?_)
      refine z_astore g dL_does_260 (by rw [hN]; decide) ?_
      refine z_ldc2 g dL_does_262 kc_L_68 ?_
      exact z_lret g hrt (by decide) (by decide) dL_does_265 (dp_x hX (fun h => by rw [e1] at h; exact absurd h (by decide)))
    · refine zx_catch g hhh (tableOf [(0, 253, 254, 66), (0, 253, 260, 70)]) ⟨0, 253, 266, 72⟩ (tableOf []) rfl (fun z hz => by
        simp only [tableOf, List.map, List.mem_cons, List.not_mem_nil, or_false] at hz
        rcases hz with rfl | rfl
        · exact Or.inr ⟨(by decide : (66 : Nat) ≠ 0), IOE, hl_IOE, nc_ISE_IOE⟩
        · exact Or.inr ⟨(by decide : (70 : Nat) ≠ 0), IAE, hl_IAE, nc_ISE_IAE⟩) (by decide) (show (72 : Nat) ≠ 0 by decide) hl_ISE hc_ISE (fun qq => ?_)
      refine z_astore g dL_does_266 (by rw [hN]; decide) ?_
      refine z_ldc2 g dL_does_268 kc_L_68 ?_
      exact z_lret g hrt (by decide) (by decide) dL_does_271 (dp_x hX (fun h => by rw [e2] at h; exact absurd h (by decide)))
  obtain ⟨hc0, rfl, g1, B2, hX2⟩ := h_9
  refine z_goto (tgt := 253) g dL_does_17 (by decide) ?_
  exact z_lret g hrt (by decide) (by decide) dL_does_253 (dp_0 hc0 g1 hX2)
set_option maxHeartbeats 4000000 in
set_option maxRecDepth 100000 in
theorem e_form (E : Ev) {B : Nat → Nat → Nat} {x : Nat} {S : Ms} (M : Mm) (hX : RX B x S M) (hV : INV S) (a b c : Int32) (w : Int64) : CTH E yL_does cL_does 8 (some .long) [(0, 253, 254, 66), (0, 253, 260, 70), (0, 253, 266, 72)] 12 16 500 [.ref x, .int 8, .int a, .int b, .int c, .long w] M (DP x M (g_form a b c w S)) noX := by
  refine CTH.of rfl (Nat.le_of_ble_eq_true rfl) (fun X g hrt hhh hE hN hR => ?_)
  subst hE
  have k11 : kd M x % 1000 = 11 := by rw [hX.1.1]
  refine z_iload_n g dL_does_0 rfl ?_
  refine z_bipush (v := 8) g dL_does_1 (by decide) ?_
  refine z_icmp_ge (tgt := 20) g dL_does_3 (by decide) (fun _ => ?_) (fun c_3 => absurd c_3 (by decide))
  refine z_iload_n g dL_does_20 rfl ?_
  refine z_bipush (v := 19) g dL_does_21 (by decide) ?_
  refine z_icmp_ge (tgt := 40) g dL_does_23 (by decide) (fun c_23 => absurd c_23 (by decide)) (fun _ => ?_)
  refine z_aload_n g dL_does_26 rfl ?_
  refine z_iload_n g dL_does_27 rfl ?_
  refine z_iload_n g dL_does_28 rfl ?_
  refine z_iload_n g dL_does_29 rfl ?_
  refine z_iload g dL_does_30 rfl ?_
  refine z_lload g dL_does_32 rfl ?_
  refine z_callS g _ _ cs_L_14 (l_form _ M hX hV a b c w) rfl (by rw [hR]; decide) (by rw [hR]; decide) (by rw [hR]; decide) (Nat.le_of_ble_eq_true rfl) rfl dL_does_34 (fun E9 M9 h9 => ?_) (fun r_9 M1 h_9 => ?_)
  · obtain ⟨rfl, h9⟩ := h9
    rcases h9 with ⟨e0, rfl⟩ | ⟨e1, rfl⟩
    · refine zx_catch g hhh (tableOf []) ⟨0, 253, 254, 66⟩ (tableOf [(0, 253, 260, 70), (0, 253, 266, 72)]) rfl (fun z hz => nomatch hz) (by decide) (show (66 : Nat) ≠ 0 by decide) hl_IOE hc_IOE (fun qq => ?_)
      refine z_astore g dL_does_254 (by rw [hN]; decide) ?_
      refine z_ldc2 g dL_does_256 kc_L_68 ?_
      exact z_lret g hrt (by decide) (by decide) dL_does_259 (dp_x hX (fun h => by rw [e0] at h; exact absurd h (by decide)))
    · refine zx_catch g hhh (tableOf [(0, 253, 254, 66)]) ⟨0, 253, 260, 70⟩ (tableOf [(0, 253, 266, 72)]) rfl (fun z hz => by
        simp only [tableOf, List.map, List.mem_cons, List.not_mem_nil, or_false] at hz
        subst hz
        · exact Or.inr ⟨(by decide : (66 : Nat) ≠ 0), IOE, hl_IOE, nc_IAE_IOE⟩) (by decide) (show (70 : Nat) ≠ 0 by decide) hl_IAE hc_IAE (fun qq => ?_)
      refine z_astore g dL_does_260 (by rw [hN]; decide) ?_
      refine z_ldc2 g dL_does_262 kc_L_68 ?_
      exact z_lret g hrt (by decide) (by decide) dL_does_265 (dp_x hX (fun h => by rw [e1] at h; exact absurd h (by decide)))
  obtain ⟨hc0, rfl, g1, B2, hX2⟩ := h_9
  refine z_goto (tgt := 253) g dL_does_37 (by decide) ?_
  exact z_lret g hrt (by decide) (by decide) dL_does_253 (dp_0 hc0 g1 hX2)
set_option maxHeartbeats 4000000 in
set_option maxRecDepth 100000 in
theorem e_petition (E : Ev) {B : Nat → Nat → Nat} {x : Nat} {S : Ms} (M : Mm) (hX : RX B x S M) (hV : INV S) (a b c : Int32) (w : Int64) : CTH E yL_does cL_does 8 (some .long) [(0, 253, 254, 66), (0, 253, 260, 70), (0, 253, 266, 72)] 12 16 500 [.ref x, .int 9, .int a, .int b, .int c, .long w] M (DP x M (g_petition a b c w S)) noX := by
  refine CTH.of rfl (Nat.le_of_ble_eq_true rfl) (fun X g hrt hhh hE hN hR => ?_)
  subst hE
  have k11 : kd M x % 1000 = 11 := by rw [hX.1.1]
  refine z_iload_n g dL_does_0 rfl ?_
  refine z_bipush (v := 8) g dL_does_1 (by decide) ?_
  refine z_icmp_ge (tgt := 20) g dL_does_3 (by decide) (fun _ => ?_) (fun c_3 => absurd c_3 (by decide))
  refine z_iload_n g dL_does_20 rfl ?_
  refine z_bipush (v := 19) g dL_does_21 (by decide) ?_
  refine z_icmp_ge (tgt := 40) g dL_does_23 (by decide) (fun c_23 => absurd c_23 (by decide)) (fun _ => ?_)
  refine z_aload_n g dL_does_26 rfl ?_
  refine z_iload_n g dL_does_27 rfl ?_
  refine z_iload_n g dL_does_28 rfl ?_
  refine z_iload_n g dL_does_29 rfl ?_
  refine z_iload g dL_does_30 rfl ?_
  refine z_lload g dL_does_32 rfl ?_
  refine z_callS g _ _ cs_L_14 (l_petition _ M hX hV a b c w) rfl (by rw [hR]; decide) (by rw [hR]; decide) (by rw [hR]; decide) (Nat.le_of_ble_eq_true rfl) rfl dL_does_34 (fun E9 M9 h9 => ?_) (fun r_9 M1 h_9 => ?_)
  · obtain ⟨rfl, h9⟩ := h9
    rcases h9 with ⟨e0, rfl⟩ | ⟨e1, rfl⟩ | ⟨e2, rfl⟩
    · refine zx_catch g hhh (tableOf []) ⟨0, 253, 254, 66⟩ (tableOf [(0, 253, 260, 70), (0, 253, 266, 72)]) rfl (fun z hz => nomatch hz) (by decide) (show (66 : Nat) ≠ 0 by decide) hl_IOE hc_IOE (fun qq => ?_)
      refine z_astore g dL_does_254 (by rw [hN]; decide) ?_
      refine z_ldc2 g dL_does_256 kc_L_68 ?_
      exact z_lret g hrt (by decide) (by decide) dL_does_259 (dp_x hX (fun h => by rw [e0] at h; exact absurd h (by decide)))
    · refine zx_catch g hhh (tableOf [(0, 253, 254, 66)]) ⟨0, 253, 260, 70⟩ (tableOf [(0, 253, 266, 72)]) rfl (fun z hz => by
        simp only [tableOf, List.map, List.mem_cons, List.not_mem_nil, or_false] at hz
        subst hz
        · exact Or.inr ⟨(by decide : (66 : Nat) ≠ 0), IOE, hl_IOE, nc_IAE_IOE⟩) (by decide) (show (70 : Nat) ≠ 0 by decide) hl_IAE hc_IAE (fun qq => ?_)
      refine z_astore g dL_does_260 (by rw [hN]; decide) ?_
      refine z_ldc2 g dL_does_262 kc_L_68 ?_
      exact z_lret g hrt (by decide) (by decide) dL_does_265 (dp_x hX (fun h => by rw [e1] at h; exact absurd h (by decide)))
    · refine zx_catch g hhh (tableOf [(0, 253, 254, 66), (0, 253, 260, 70)]) ⟨0, 253, 266, 72⟩ (tableOf []) rfl (fun z hz => by
        simp only [tableOf, List.map, List.mem_cons, List.not_mem_nil, or_false] at hz
        rcases hz with rfl | rfl
        · exact Or.inr ⟨(by decide : (66 : Nat) ≠ 0), IOE, hl_IOE, nc_ISE_IOE⟩
        · exact Or.inr ⟨(by decide : (70 : Nat) ≠ 0), IAE, hl_IAE, nc_ISE_IAE⟩) (by decide) (show (72 : Nat) ≠ 0 by decide) hl_ISE hc_ISE (fun qq => ?_)
      refine z_astore g dL_does_266 (by rw [hN]; decide) ?_
      refine z_ldc2 g dL_does_268 kc_L_68 ?_
      exact z_lret g hrt (by decide) (by decide) dL_does_271 (dp_x hX (fun h => by rw [e2] at h; exact absurd h (by decide)))
  obtain ⟨hc0, rfl, g1, B2, hX2⟩ := h_9
  refine z_goto (tgt := 253) g dL_does_37 (by decide) ?_
  exact z_lret g hrt (by decide) (by decide) dL_does_253 (dp_0 hc0 g1 hX2)
set_option maxHeartbeats 4000000 in
set_option maxRecDepth 100000 in
theorem e_vote (E : Ev) {B : Nat → Nat → Nat} {x : Nat} {S : Ms} (M : Mm) (hX : RX B x S M) (hV : INV S) (a b c : Int32) (w : Int64) : CTH E yL_does cL_does 8 (some .long) [(0, 253, 254, 66), (0, 253, 260, 70), (0, 253, 266, 72)] 12 16 500 [.ref x, .int 10, .int a, .int b, .int c, .long w] M (DP x M (g_vote a b c w S)) noX := by
  refine CTH.of rfl (Nat.le_of_ble_eq_true rfl) (fun X g hrt hhh hE hN hR => ?_)
  subst hE
  have k11 : kd M x % 1000 = 11 := by rw [hX.1.1]
  refine z_iload_n g dL_does_0 rfl ?_
  refine z_bipush (v := 8) g dL_does_1 (by decide) ?_
  refine z_icmp_ge (tgt := 20) g dL_does_3 (by decide) (fun _ => ?_) (fun c_3 => absurd c_3 (by decide))
  refine z_iload_n g dL_does_20 rfl ?_
  refine z_bipush (v := 19) g dL_does_21 (by decide) ?_
  refine z_icmp_ge (tgt := 40) g dL_does_23 (by decide) (fun c_23 => absurd c_23 (by decide)) (fun _ => ?_)
  refine z_aload_n g dL_does_26 rfl ?_
  refine z_iload_n g dL_does_27 rfl ?_
  refine z_iload_n g dL_does_28 rfl ?_
  refine z_iload_n g dL_does_29 rfl ?_
  refine z_iload g dL_does_30 rfl ?_
  refine z_lload g dL_does_32 rfl ?_
  refine z_callS g _ _ cs_L_14 (l_vote _ M hX hV a b c w _ rfl) rfl (by rw [hR]; decide) (by rw [hR]; decide) (by rw [hR]; decide) (Nat.le_of_ble_eq_true rfl) rfl dL_does_34 (fun E9 M9 h9 => ?_) (fun r_9 M1 h_9 => ?_)
  · obtain ⟨rfl, h9⟩ := h9
    rcases h9 with ⟨e0, rfl⟩ | ⟨e1, rfl⟩
    · refine zx_catch g hhh (tableOf []) ⟨0, 253, 254, 66⟩ (tableOf [(0, 253, 260, 70), (0, 253, 266, 72)]) rfl (fun z hz => nomatch hz) (by decide) (show (66 : Nat) ≠ 0 by decide) hl_IOE hc_IOE (fun qq => ?_)
      refine z_astore g dL_does_254 (by rw [hN]; decide) ?_
      refine z_ldc2 g dL_does_256 kc_L_68 ?_
      exact z_lret g hrt (by decide) (by decide) dL_does_259 (dp_x hX (fun h => by rw [e0] at h; exact absurd h (by decide)))
    · refine zx_catch g hhh (tableOf [(0, 253, 254, 66), (0, 253, 260, 70)]) ⟨0, 253, 266, 72⟩ (tableOf []) rfl (fun z hz => by
        simp only [tableOf, List.map, List.mem_cons, List.not_mem_nil, or_false] at hz
        rcases hz with rfl | rfl
        · exact Or.inr ⟨(by decide : (66 : Nat) ≠ 0), IOE, hl_IOE, nc_ISE_IOE⟩
        · exact Or.inr ⟨(by decide : (70 : Nat) ≠ 0), IAE, hl_IAE, nc_ISE_IAE⟩) (by decide) (show (72 : Nat) ≠ 0 by decide) hl_ISE hc_ISE (fun qq => ?_)
      refine z_astore g dL_does_266 (by rw [hN]; decide) ?_
      refine z_ldc2 g dL_does_268 kc_L_68 ?_
      exact z_lret g hrt (by decide) (by decide) dL_does_271 (dp_x hX (fun h => by rw [e1] at h; exact absurd h (by decide)))
  obtain ⟨hc0, rfl, g1, B2, hX2⟩ := h_9
  refine z_goto (tgt := 253) g dL_does_37 (by decide) ?_
  exact z_lret g hrt (by decide) (by decide) dL_does_253 (dp_0 hc0 g1 hX2)
set_option maxHeartbeats 4000000 in
set_option maxRecDepth 100000 in
theorem e_protest (E : Ev) {B : Nat → Nat → Nat} {x : Nat} {S : Ms} (M : Mm) (hX : RX B x S M) (hV : INV S) (a b c : Int32) (w : Int64) : CTH E yL_does cL_does 8 (some .long) [(0, 253, 254, 66), (0, 253, 260, 70), (0, 253, 266, 72)] 12 16 500 [.ref x, .int 11, .int a, .int b, .int c, .long w] M (DP x M (g_protest a b c w S)) noX := by
  refine CTH.of rfl (Nat.le_of_ble_eq_true rfl) (fun X g hrt hhh hE hN hR => ?_)
  subst hE
  have k11 : kd M x % 1000 = 11 := by rw [hX.1.1]
  refine z_iload_n g dL_does_0 rfl ?_
  refine z_bipush (v := 8) g dL_does_1 (by decide) ?_
  refine z_icmp_ge (tgt := 20) g dL_does_3 (by decide) (fun _ => ?_) (fun c_3 => absurd c_3 (by decide))
  refine z_iload_n g dL_does_20 rfl ?_
  refine z_bipush (v := 19) g dL_does_21 (by decide) ?_
  refine z_icmp_ge (tgt := 40) g dL_does_23 (by decide) (fun c_23 => absurd c_23 (by decide)) (fun _ => ?_)
  refine z_aload_n g dL_does_26 rfl ?_
  refine z_iload_n g dL_does_27 rfl ?_
  refine z_iload_n g dL_does_28 rfl ?_
  refine z_iload_n g dL_does_29 rfl ?_
  refine z_iload g dL_does_30 rfl ?_
  refine z_lload g dL_does_32 rfl ?_
  refine z_callS g _ _ cs_L_14 (l_protest _ M hX hV a b c w) rfl (by rw [hR]; decide) (by rw [hR]; decide) (by rw [hR]; decide) (Nat.le_of_ble_eq_true rfl) rfl dL_does_34 (fun E9 M9 h9 => ?_) (fun r_9 M1 h_9 => ?_)
  · obtain ⟨rfl, h9⟩ := h9
    rcases h9 with ⟨e0, rfl⟩ | ⟨e1, rfl⟩
    · refine zx_catch g hhh (tableOf []) ⟨0, 253, 254, 66⟩ (tableOf [(0, 253, 260, 70), (0, 253, 266, 72)]) rfl (fun z hz => nomatch hz) (by decide) (show (66 : Nat) ≠ 0 by decide) hl_IOE hc_IOE (fun qq => ?_)
      refine z_astore g dL_does_254 (by rw [hN]; decide) ?_
      refine z_ldc2 g dL_does_256 kc_L_68 ?_
      exact z_lret g hrt (by decide) (by decide) dL_does_259 (dp_x hX (fun h => by rw [e0] at h; exact absurd h (by decide)))
    · refine zx_catch g hhh (tableOf [(0, 253, 254, 66), (0, 253, 260, 70)]) ⟨0, 253, 266, 72⟩ (tableOf []) rfl (fun z hz => by
        simp only [tableOf, List.map, List.mem_cons, List.not_mem_nil, or_false] at hz
        rcases hz with rfl | rfl
        · exact Or.inr ⟨(by decide : (66 : Nat) ≠ 0), IOE, hl_IOE, nc_ISE_IOE⟩
        · exact Or.inr ⟨(by decide : (70 : Nat) ≠ 0), IAE, hl_IAE, nc_ISE_IAE⟩) (by decide) (show (72 : Nat) ≠ 0 by decide) hl_ISE hc_ISE (fun qq => ?_)
      refine z_astore g dL_does_266 (by rw [hN]; decide) ?_
      refine z_ldc2 g dL_does_268 kc_L_68 ?_
      exact z_lret g hrt (by decide) (by decide) dL_does_271 (dp_x hX (fun h => by rw [e1] at h; exact absurd h (by decide)))
  obtain ⟨hc0, rfl, g1, B2, hX2⟩ := h_9
  refine z_goto (tgt := 253) g dL_does_37 (by decide) ?_
  exact z_lret g hrt (by decide) (by decide) dL_does_253 (dp_0 hc0 g1 hX2)
set_option maxHeartbeats 4000000 in
set_option maxRecDepth 100000 in
theorem e_decide (E : Ev) {B : Nat → Nat → Nat} {x : Nat} {S : Ms} (M : Mm) (hX : RX B x S M) (hV : INV S) (a b c : Int32) (w : Int64) : CTH E yL_does cL_does 8 (some .long) [(0, 253, 254, 66), (0, 253, 260, 70), (0, 253, 266, 72)] 12 16 500 [.ref x, .int 12, .int a, .int b, .int c, .long w] M (DP x M (g_decide a b c w S)) noX := by
  refine CTH.of rfl (Nat.le_of_ble_eq_true rfl) (fun X g hrt hhh hE hN hR => ?_)
  subst hE
  have k11 : kd M x % 1000 = 11 := by rw [hX.1.1]
  refine z_iload_n g dL_does_0 rfl ?_
  refine z_bipush (v := 8) g dL_does_1 (by decide) ?_
  refine z_icmp_ge (tgt := 20) g dL_does_3 (by decide) (fun _ => ?_) (fun c_3 => absurd c_3 (by decide))
  refine z_iload_n g dL_does_20 rfl ?_
  refine z_bipush (v := 19) g dL_does_21 (by decide) ?_
  refine z_icmp_ge (tgt := 40) g dL_does_23 (by decide) (fun c_23 => absurd c_23 (by decide)) (fun _ => ?_)
  refine z_aload_n g dL_does_26 rfl ?_
  refine z_iload_n g dL_does_27 rfl ?_
  refine z_iload_n g dL_does_28 rfl ?_
  refine z_iload_n g dL_does_29 rfl ?_
  refine z_iload g dL_does_30 rfl ?_
  refine z_lload g dL_does_32 rfl ?_
  refine z_callS g _ _ cs_L_14 (l_decide _ M hX hV a b c w) rfl (by rw [hR]; decide) (by rw [hR]; decide) (by rw [hR]; decide) (Nat.le_of_ble_eq_true rfl) rfl dL_does_34 (fun E9 M9 h9 => ?_) (fun r_9 M1 h_9 => ?_)
  · obtain ⟨rfl, h9⟩ := h9
    rcases h9 with ⟨e0, rfl⟩ | ⟨e1, rfl⟩
    · refine zx_catch g hhh (tableOf []) ⟨0, 253, 254, 66⟩ (tableOf [(0, 253, 260, 70), (0, 253, 266, 72)]) rfl (fun z hz => nomatch hz) (by decide) (show (66 : Nat) ≠ 0 by decide) hl_IOE hc_IOE (fun qq => ?_)
      refine z_astore g dL_does_254 (by rw [hN]; decide) ?_
      refine z_ldc2 g dL_does_256 kc_L_68 ?_
      exact z_lret g hrt (by decide) (by decide) dL_does_259 (dp_x hX (fun h => by rw [e0] at h; exact absurd h (by decide)))
    · refine zx_catch g hhh (tableOf [(0, 253, 254, 66), (0, 253, 260, 70)]) ⟨0, 253, 266, 72⟩ (tableOf []) rfl (fun z hz => by
        simp only [tableOf, List.map, List.mem_cons, List.not_mem_nil, or_false] at hz
        rcases hz with rfl | rfl
        · exact Or.inr ⟨(by decide : (66 : Nat) ≠ 0), IOE, hl_IOE, nc_ISE_IOE⟩
        · exact Or.inr ⟨(by decide : (70 : Nat) ≠ 0), IAE, hl_IAE, nc_ISE_IAE⟩) (by decide) (show (72 : Nat) ≠ 0 by decide) hl_ISE hc_ISE (fun qq => ?_)
      refine z_astore g dL_does_266 (by rw [hN]; decide) ?_
      refine z_ldc2 g dL_does_268 kc_L_68 ?_
      exact z_lret g hrt (by decide) (by decide) dL_does_271 (dp_x hX (fun h => by rw [e1] at h; exact absurd h (by decide)))
  obtain ⟨hc0, rfl, g1, B2, hX2⟩ := h_9
  refine z_goto (tgt := 253) g dL_does_37 (by decide) ?_
  exact z_lret g hrt (by decide) (by decide) dL_does_253 (dp_0 hc0 g1 hX2)
set_option maxHeartbeats 4000000 in
set_option maxRecDepth 100000 in
theorem e_appeal (E : Ev) {B : Nat → Nat → Nat} {x : Nat} {S : Ms} (M : Mm) (hX : RX B x S M) (hV : INV S) (a b c : Int32) (w : Int64) : CTH E yL_does cL_does 8 (some .long) [(0, 253, 254, 66), (0, 253, 260, 70), (0, 253, 266, 72)] 12 16 500 [.ref x, .int 13, .int a, .int b, .int c, .long w] M (DP x M (g_appeal a b c w S)) noX := by
  refine CTH.of rfl (Nat.le_of_ble_eq_true rfl) (fun X g hrt hhh hE hN hR => ?_)
  subst hE
  have k11 : kd M x % 1000 = 11 := by rw [hX.1.1]
  refine z_iload_n g dL_does_0 rfl ?_
  refine z_bipush (v := 8) g dL_does_1 (by decide) ?_
  refine z_icmp_ge (tgt := 20) g dL_does_3 (by decide) (fun _ => ?_) (fun c_3 => absurd c_3 (by decide))
  refine z_iload_n g dL_does_20 rfl ?_
  refine z_bipush (v := 19) g dL_does_21 (by decide) ?_
  refine z_icmp_ge (tgt := 40) g dL_does_23 (by decide) (fun c_23 => absurd c_23 (by decide)) (fun _ => ?_)
  refine z_aload_n g dL_does_26 rfl ?_
  refine z_iload_n g dL_does_27 rfl ?_
  refine z_iload_n g dL_does_28 rfl ?_
  refine z_iload_n g dL_does_29 rfl ?_
  refine z_iload g dL_does_30 rfl ?_
  refine z_lload g dL_does_32 rfl ?_
  refine z_callS g _ _ cs_L_14 (l_appeal _ M hX hV a b c w) rfl (by rw [hR]; decide) (by rw [hR]; decide) (by rw [hR]; decide) (Nat.le_of_ble_eq_true rfl) rfl dL_does_34 (fun E9 M9 h9 => ?_) (fun r_9 M1 h_9 => ?_)
  · obtain ⟨rfl, h9⟩ := h9
    rcases h9 with ⟨e0, rfl⟩ | ⟨e1, rfl⟩
    · refine zx_catch g hhh (tableOf []) ⟨0, 253, 254, 66⟩ (tableOf [(0, 253, 260, 70), (0, 253, 266, 72)]) rfl (fun z hz => nomatch hz) (by decide) (show (66 : Nat) ≠ 0 by decide) hl_IOE hc_IOE (fun qq => ?_)
      refine z_astore g dL_does_254 (by rw [hN]; decide) ?_
      refine z_ldc2 g dL_does_256 kc_L_68 ?_
      exact z_lret g hrt (by decide) (by decide) dL_does_259 (dp_x hX (fun h => by rw [e0] at h; exact absurd h (by decide)))
    · refine zx_catch g hhh (tableOf [(0, 253, 254, 66), (0, 253, 260, 70)]) ⟨0, 253, 266, 72⟩ (tableOf []) rfl (fun z hz => by
        simp only [tableOf, List.map, List.mem_cons, List.not_mem_nil, or_false] at hz
        rcases hz with rfl | rfl
        · exact Or.inr ⟨(by decide : (66 : Nat) ≠ 0), IOE, hl_IOE, nc_ISE_IOE⟩
        · exact Or.inr ⟨(by decide : (70 : Nat) ≠ 0), IAE, hl_IAE, nc_ISE_IAE⟩) (by decide) (show (72 : Nat) ≠ 0 by decide) hl_ISE hc_ISE (fun qq => ?_)
      refine z_astore g dL_does_266 (by rw [hN]; decide) ?_
      refine z_ldc2 g dL_does_268 kc_L_68 ?_
      exact z_lret g hrt (by decide) (by decide) dL_does_271 (dp_x hX (fun h => by rw [e1] at h; exact absurd h (by decide)))
  obtain ⟨hc0, rfl, g1, B2, hX2⟩ := h_9
  refine z_goto (tgt := 253) g dL_does_37 (by decide) ?_
  exact z_lret g hrt (by decide) (by decide) dL_does_253 (dp_0 hc0 g1 hX2)
set_option maxHeartbeats 4000000 in
set_option maxRecDepth 100000 in
theorem e_petOf (E : Ev) {B : Nat → Nat → Nat} {x : Nat} {S : Ms} (M : Mm) (hX : RX B x S M) (hV : INV S) (a b c : Int32) (w : Int64) : CTH E yL_does cL_does 8 (some .long) [(0, 253, 254, 66), (0, 253, 260, 70), (0, 253, 266, 72)] 12 16 500 [.ref x, .int 14, .int a, .int b, .int c, .long w] M (DP x M (g_petOf a b c w S)) noX := by
  refine CTH.of rfl (Nat.le_of_ble_eq_true rfl) (fun X g hrt hhh hE hN hR => ?_)
  subst hE
  have k11 : kd M x % 1000 = 11 := by rw [hX.1.1]
  refine z_iload_n g dL_does_0 rfl ?_
  refine z_bipush (v := 8) g dL_does_1 (by decide) ?_
  refine z_icmp_ge (tgt := 20) g dL_does_3 (by decide) (fun _ => ?_) (fun c_3 => absurd c_3 (by decide))
  refine z_iload_n g dL_does_20 rfl ?_
  refine z_bipush (v := 19) g dL_does_21 (by decide) ?_
  refine z_icmp_ge (tgt := 40) g dL_does_23 (by decide) (fun c_23 => absurd c_23 (by decide)) (fun _ => ?_)
  refine z_aload_n g dL_does_26 rfl ?_
  refine z_iload_n g dL_does_27 rfl ?_
  refine z_iload_n g dL_does_28 rfl ?_
  refine z_iload_n g dL_does_29 rfl ?_
  refine z_iload g dL_does_30 rfl ?_
  refine z_lload g dL_does_32 rfl ?_
  refine z_callS g _ _ cs_L_14 (l_petOf _ M hX hV a b c w) rfl (by rw [hR]; decide) (by rw [hR]; decide) (by rw [hR]; decide) (Nat.le_of_ble_eq_true rfl) rfl dL_does_34 (fun E9 M9 h9 => ?_) (fun r_9 M1 h_9 => ?_)
  · obtain ⟨rfl, h9⟩ := h9
    rcases h9 with ⟨e0, rfl⟩ | ⟨e1, rfl⟩
    · refine zx_catch g hhh (tableOf []) ⟨0, 253, 254, 66⟩ (tableOf [(0, 253, 260, 70), (0, 253, 266, 72)]) rfl (fun z hz => nomatch hz) (by decide) (show (66 : Nat) ≠ 0 by decide) hl_IOE hc_IOE (fun qq => ?_)
      refine z_astore g dL_does_254 (by rw [hN]; decide) ?_
      refine z_ldc2 g dL_does_256 kc_L_68 ?_
      exact z_lret g hrt (by decide) (by decide) dL_does_259 (dp_x hX (fun h => by rw [e0] at h; exact absurd h (by decide)))
    · refine zx_catch g hhh (tableOf [(0, 253, 254, 66)]) ⟨0, 253, 260, 70⟩ (tableOf [(0, 253, 266, 72)]) rfl (fun z hz => by
        simp only [tableOf, List.map, List.mem_cons, List.not_mem_nil, or_false] at hz
        subst hz
        · exact Or.inr ⟨(by decide : (66 : Nat) ≠ 0), IOE, hl_IOE, nc_IAE_IOE⟩) (by decide) (show (70 : Nat) ≠ 0 by decide) hl_IAE hc_IAE (fun qq => ?_)
      refine z_astore g dL_does_260 (by rw [hN]; decide) ?_
      refine z_ldc2 g dL_does_262 kc_L_68 ?_
      exact z_lret g hrt (by decide) (by decide) dL_does_265 (dp_x hX (fun h => by rw [e1] at h; exact absurd h (by decide)))
  obtain ⟨hc0, rfl, g1, B2, hX2⟩ := h_9
  refine z_goto (tgt := 253) g dL_does_37 (by decide) ?_
  exact z_lret g hrt (by decide) (by decide) dL_does_253 (dp_0 hc0 g1 hX2)
set_option maxHeartbeats 4000000 in
set_option maxRecDepth 100000 in
theorem e_census (E : Ev) {B : Nat → Nat → Nat} {x : Nat} {S : Ms} (M : Mm) (hX : RX B x S M) (hV : INV S) (a b c : Int32) (w : Int64) : CTH E yL_does cL_does 8 (some .long) [(0, 253, 254, 66), (0, 253, 260, 70), (0, 253, 266, 72)] 12 16 500 [.ref x, .int 15, .int a, .int b, .int c, .long w] M (DP x M (g_census a b c w S)) noX := by
  refine CTH.of rfl (Nat.le_of_ble_eq_true rfl) (fun X g hrt hhh hE hN hR => ?_)
  subst hE
  have k11 : kd M x % 1000 = 11 := by rw [hX.1.1]
  refine z_iload_n g dL_does_0 rfl ?_
  refine z_bipush (v := 8) g dL_does_1 (by decide) ?_
  refine z_icmp_ge (tgt := 20) g dL_does_3 (by decide) (fun _ => ?_) (fun c_3 => absurd c_3 (by decide))
  refine z_iload_n g dL_does_20 rfl ?_
  refine z_bipush (v := 19) g dL_does_21 (by decide) ?_
  refine z_icmp_ge (tgt := 40) g dL_does_23 (by decide) (fun c_23 => absurd c_23 (by decide)) (fun _ => ?_)
  refine z_aload_n g dL_does_26 rfl ?_
  refine z_iload_n g dL_does_27 rfl ?_
  refine z_iload_n g dL_does_28 rfl ?_
  refine z_iload_n g dL_does_29 rfl ?_
  refine z_iload g dL_does_30 rfl ?_
  refine z_lload g dL_does_32 rfl ?_
  refine z_callS g _ _ cs_L_14 (l_census _ M hX hV a b c w) rfl (by rw [hR]; decide) (by rw [hR]; decide) (by rw [hR]; decide) (Nat.le_of_ble_eq_true rfl) rfl dL_does_34 (fun E9 M9 h9 => ?_) (fun r_9 M1 h_9 => ?_)
  · obtain ⟨rfl, h9⟩ := h9
    rcases h9 with ⟨e0, rfl⟩ | ⟨e1, rfl⟩
    · refine zx_catch g hhh (tableOf []) ⟨0, 253, 254, 66⟩ (tableOf [(0, 253, 260, 70), (0, 253, 266, 72)]) rfl (fun z hz => nomatch hz) (by decide) (show (66 : Nat) ≠ 0 by decide) hl_IOE hc_IOE (fun qq => ?_)
      refine z_astore g dL_does_254 (by rw [hN]; decide) ?_
      refine z_ldc2 g dL_does_256 kc_L_68 ?_
      exact z_lret g hrt (by decide) (by decide) dL_does_259 (dp_x hX (fun h => by rw [e0] at h; exact absurd h (by decide)))
    · refine zx_catch g hhh (tableOf [(0, 253, 254, 66)]) ⟨0, 253, 260, 70⟩ (tableOf [(0, 253, 266, 72)]) rfl (fun z hz => by
        simp only [tableOf, List.map, List.mem_cons, List.not_mem_nil, or_false] at hz
        subst hz
        · exact Or.inr ⟨(by decide : (66 : Nat) ≠ 0), IOE, hl_IOE, nc_IAE_IOE⟩) (by decide) (show (70 : Nat) ≠ 0 by decide) hl_IAE hc_IAE (fun qq => ?_)
      refine z_astore g dL_does_260 (by rw [hN]; decide) ?_
      refine z_ldc2 g dL_does_262 kc_L_68 ?_
      exact z_lret g hrt (by decide) (by decide) dL_does_265 (dp_x hX (fun h => by rw [e1] at h; exact absurd h (by decide)))
  obtain ⟨hc0, rfl, g1, B2, hX2⟩ := h_9
  refine z_goto (tgt := 253) g dL_does_37 (by decide) ?_
  exact z_lret g hrt (by decide) (by decide) dL_does_253 (dp_0 hc0 g1 hX2)
set_option maxHeartbeats 4000000 in
set_option maxRecDepth 100000 in
theorem e_dispute (E : Ev) {B : Nat → Nat → Nat} {x : Nat} {S : Ms} (M : Mm) (hX : RX B x S M) (hV : INV S) (a b c : Int32) (w : Int64) : CTH E yL_does cL_does 8 (some .long) [(0, 253, 254, 66), (0, 253, 260, 70), (0, 253, 266, 72)] 12 16 500 [.ref x, .int 16, .int a, .int b, .int c, .long w] M (DP x M (g_dispute a b c w S)) noX := by
  refine CTH.of rfl (Nat.le_of_ble_eq_true rfl) (fun X g hrt hhh hE hN hR => ?_)
  subst hE
  have k11 : kd M x % 1000 = 11 := by rw [hX.1.1]
  refine z_iload_n g dL_does_0 rfl ?_
  refine z_bipush (v := 8) g dL_does_1 (by decide) ?_
  refine z_icmp_ge (tgt := 20) g dL_does_3 (by decide) (fun _ => ?_) (fun c_3 => absurd c_3 (by decide))
  refine z_iload_n g dL_does_20 rfl ?_
  refine z_bipush (v := 19) g dL_does_21 (by decide) ?_
  refine z_icmp_ge (tgt := 40) g dL_does_23 (by decide) (fun c_23 => absurd c_23 (by decide)) (fun _ => ?_)
  refine z_aload_n g dL_does_26 rfl ?_
  refine z_iload_n g dL_does_27 rfl ?_
  refine z_iload_n g dL_does_28 rfl ?_
  refine z_iload_n g dL_does_29 rfl ?_
  refine z_iload g dL_does_30 rfl ?_
  refine z_lload g dL_does_32 rfl ?_
  refine z_callS g _ _ cs_L_14 (l_dispute _ M hX hV a b c w) rfl (by rw [hR]; decide) (by rw [hR]; decide) (by rw [hR]; decide) (Nat.le_of_ble_eq_true rfl) rfl dL_does_34 (fun E9 M9 h9 => ?_) (fun r_9 M1 h_9 => ?_)
  · obtain ⟨rfl, h9⟩ := h9
    obtain ⟨e0, rfl⟩ := h9
    · refine zx_catch g hhh (tableOf []) ⟨0, 253, 254, 66⟩ (tableOf [(0, 253, 260, 70), (0, 253, 266, 72)]) rfl (fun z hz => nomatch hz) (by decide) (show (66 : Nat) ≠ 0 by decide) hl_IOE hc_IOE (fun qq => ?_)
      refine z_astore g dL_does_254 (by rw [hN]; decide) ?_
      refine z_ldc2 g dL_does_256 kc_L_68 ?_
      exact z_lret g hrt (by decide) (by decide) dL_does_259 (dp_x hX (fun h => by rw [e0] at h; exact absurd h (by decide)))
  obtain ⟨hc0, rfl, g1, B2, hX2⟩ := h_9
  refine z_goto (tgt := 253) g dL_does_37 (by decide) ?_
  exact z_lret g hrt (by decide) (by decide) dL_does_253 (dp_0 hc0 g1 hX2)
set_option maxHeartbeats 4000000 in
set_option maxRecDepth 100000 in
theorem e_shown (E : Ev) {B : Nat → Nat → Nat} {x : Nat} {S : Ms} (M : Mm) (hX : RX B x S M) (hV : INV S) (a b c : Int32) (w : Int64) : CTH E yL_does cL_does 8 (some .long) [(0, 253, 254, 66), (0, 253, 260, 70), (0, 253, 266, 72)] 12 16 500 [.ref x, .int 17, .int a, .int b, .int c, .long w] M (DP x M (g_shown a b c w S)) noX := by
  refine CTH.of rfl (Nat.le_of_ble_eq_true rfl) (fun X g hrt hhh hE hN hR => ?_)
  subst hE
  have k11 : kd M x % 1000 = 11 := by rw [hX.1.1]
  refine z_iload_n g dL_does_0 rfl ?_
  refine z_bipush (v := 8) g dL_does_1 (by decide) ?_
  refine z_icmp_ge (tgt := 20) g dL_does_3 (by decide) (fun _ => ?_) (fun c_3 => absurd c_3 (by decide))
  refine z_iload_n g dL_does_20 rfl ?_
  refine z_bipush (v := 19) g dL_does_21 (by decide) ?_
  refine z_icmp_ge (tgt := 40) g dL_does_23 (by decide) (fun c_23 => absurd c_23 (by decide)) (fun _ => ?_)
  refine z_aload_n g dL_does_26 rfl ?_
  refine z_iload_n g dL_does_27 rfl ?_
  refine z_iload_n g dL_does_28 rfl ?_
  refine z_iload_n g dL_does_29 rfl ?_
  refine z_iload g dL_does_30 rfl ?_
  refine z_lload g dL_does_32 rfl ?_
  refine z_callS g _ _ cs_L_14 (l_shown _ M hX hV a b c w) rfl (by rw [hR]; decide) (by rw [hR]; decide) (by rw [hR]; decide) (Nat.le_of_ble_eq_true rfl) rfl dL_does_34 (fun E9 M9 h9 => ?_) (fun r_9 M1 h_9 => ?_)
  · obtain ⟨rfl, h9⟩ := h9
    rcases h9 with ⟨e0, rfl⟩ | ⟨e1, rfl⟩
    · refine zx_catch g hhh (tableOf []) ⟨0, 253, 254, 66⟩ (tableOf [(0, 253, 260, 70), (0, 253, 266, 72)]) rfl (fun z hz => nomatch hz) (by decide) (show (66 : Nat) ≠ 0 by decide) hl_IOE hc_IOE (fun qq => ?_)
      refine z_astore g dL_does_254 (by rw [hN]; decide) ?_
      refine z_ldc2 g dL_does_256 kc_L_68 ?_
      exact z_lret g hrt (by decide) (by decide) dL_does_259 (dp_x hX (fun h => by rw [e0] at h; exact absurd h (by decide)))
    · refine zx_catch g hhh (tableOf [(0, 253, 254, 66)]) ⟨0, 253, 260, 70⟩ (tableOf [(0, 253, 266, 72)]) rfl (fun z hz => by
        simp only [tableOf, List.map, List.mem_cons, List.not_mem_nil, or_false] at hz
        subst hz
        · exact Or.inr ⟨(by decide : (66 : Nat) ≠ 0), IOE, hl_IOE, nc_IAE_IOE⟩) (by decide) (show (70 : Nat) ≠ 0 by decide) hl_IAE hc_IAE (fun qq => ?_)
      refine z_astore g dL_does_260 (by rw [hN]; decide) ?_
      refine z_ldc2 g dL_does_262 kc_L_68 ?_
      exact z_lret g hrt (by decide) (by decide) dL_does_265 (dp_x hX (fun h => by rw [e1] at h; exact absurd h (by decide)))
  obtain ⟨hc0, rfl, g1, B2, hX2⟩ := h_9
  refine z_goto (tgt := 253) g dL_does_37 (by decide) ?_
  exact z_lret g hrt (by decide) (by decide) dL_does_253 (dp_0 hc0 g1 hX2)
set_option maxHeartbeats 4000000 in
set_option maxRecDepth 100000 in
theorem e_display (E : Ev) {B : Nat → Nat → Nat} {x : Nat} {S : Ms} (M : Mm) (hX : RX B x S M) (hV : INV S) (a b c : Int32) (w : Int64) : CTH E yL_does cL_does 8 (some .long) [(0, 253, 254, 66), (0, 253, 260, 70), (0, 253, 266, 72)] 12 16 500 [.ref x, .int 18, .int a, .int b, .int c, .long w] M (DP x M (g_display a b c w S)) noX := by
  refine CTH.of rfl (Nat.le_of_ble_eq_true rfl) (fun X g hrt hhh hE hN hR => ?_)
  subst hE
  have k11 : kd M x % 1000 = 11 := by rw [hX.1.1]
  refine z_iload_n g dL_does_0 rfl ?_
  refine z_bipush (v := 8) g dL_does_1 (by decide) ?_
  refine z_icmp_ge (tgt := 20) g dL_does_3 (by decide) (fun _ => ?_) (fun c_3 => absurd c_3 (by decide))
  refine z_iload_n g dL_does_20 rfl ?_
  refine z_bipush (v := 19) g dL_does_21 (by decide) ?_
  refine z_icmp_ge (tgt := 40) g dL_does_23 (by decide) (fun c_23 => absurd c_23 (by decide)) (fun _ => ?_)
  refine z_aload_n g dL_does_26 rfl ?_
  refine z_iload_n g dL_does_27 rfl ?_
  refine z_iload_n g dL_does_28 rfl ?_
  refine z_iload_n g dL_does_29 rfl ?_
  refine z_iload g dL_does_30 rfl ?_
  refine z_lload g dL_does_32 rfl ?_
  refine z_callS g _ _ cs_L_14 (l_display _ M hX hV a b c w) rfl (by rw [hR]; decide) (by rw [hR]; decide) (by rw [hR]; decide) (Nat.le_of_ble_eq_true rfl) rfl dL_does_34 (fun E9 M9 h9 => ?_) (fun r_9 M1 h_9 => ?_)
  · obtain ⟨rfl, h9⟩ := h9
    obtain ⟨e0, rfl⟩ := h9
    · refine zx_catch g hhh (tableOf []) ⟨0, 253, 254, 66⟩ (tableOf [(0, 253, 260, 70), (0, 253, 266, 72)]) rfl (fun z hz => nomatch hz) (by decide) (show (66 : Nat) ≠ 0 by decide) hl_IOE hc_IOE (fun qq => ?_)
      refine z_astore g dL_does_254 (by rw [hN]; decide) ?_
      refine z_ldc2 g dL_does_256 kc_L_68 ?_
      exact z_lret g hrt (by decide) (by decide) dL_does_259 (dp_x hX (fun h => by rw [e0] at h; exact absurd h (by decide)))
  obtain ⟨hc0, rfl, g1, B2, hX2⟩ := h_9
  refine z_goto (tgt := 253) g dL_does_37 (by decide) ?_
  exact z_lret g hrt (by decide) (by decide) dL_does_253 (dp_0 hc0 g1 hX2)
set_option maxHeartbeats 4000000 in
set_option maxRecDepth 100000 in
theorem e_table (E : Ev) {B : Nat → Nat → Nat} {x : Nat} {S : Ms} (M : Mm) (hX : RX B x S M) (hV : INV S) (a b c : Int32) (w : Int64) : CTH E yL_does cL_does 8 (some .long) [(0, 253, 254, 66), (0, 253, 260, 70), (0, 253, 266, 72)] 12 16 500 [.ref x, .int 19, .int a, .int b, .int c, .long w] M (DP x M (g_table a b c w S)) noX := by
  refine CTH.of rfl (Nat.le_of_ble_eq_true rfl) (fun X g hrt hhh hE hN hR => ?_)
  subst hE
  have k11 : kd M x % 1000 = 11 := by rw [hX.1.1]
  refine z_iload_n g dL_does_0 rfl ?_
  refine z_bipush (v := 8) g dL_does_1 (by decide) ?_
  refine z_icmp_ge (tgt := 20) g dL_does_3 (by decide) (fun _ => ?_) (fun c_3 => absurd c_3 (by decide))
  refine z_iload_n g dL_does_20 rfl ?_
  refine z_bipush (v := 19) g dL_does_21 (by decide) ?_
  refine z_icmp_ge (tgt := 40) g dL_does_23 (by decide) (fun _ => ?_) (fun c_23 => absurd c_23 (by decide))
  refine z_iload_n g dL_does_40 rfl ?_
  refine z_bipush (v := 19) g dL_does_41 (by decide) ?_
  refine z_icmp_ne (tgt := 58) g dL_does_43 (by decide) (fun c_43 => absurd c_43 (by decide)) (fun _ => ?_)
  refine z_aload_n g dL_does_46 rfl ?_
  refine z_iload_n g dL_does_47 rfl ?_
  refine z_iload_n g dL_does_48 rfl ?_
  refine z_iload g dL_does_49 rfl ?_
  refine z_callV g _ _ cv_L_17 (k_table _ M hX hV a b c) k11 (by decide) rfl (by rw [hR]; decide) (by rw [hR]; decide) (by rw [hR]; decide) (Nat.le_of_ble_eq_true rfl) rfl dL_does_51 (fun E9 M9 h9 => ?_) (fun r_9 M1 h_9 => ?_)
  · obtain ⟨rfl, h9⟩ := h9
    rcases h9 with ⟨e0, rfl⟩ | ⟨e1, rfl⟩
    · refine zx_catch g hhh (tableOf []) ⟨0, 253, 254, 66⟩ (tableOf [(0, 253, 260, 70), (0, 253, 266, 72)]) rfl (fun z hz => nomatch hz) (by decide) (show (66 : Nat) ≠ 0 by decide) hl_IOE hc_IOE (fun qq => ?_)
      refine z_astore g dL_does_254 (by rw [hN]; decide) ?_
      refine z_ldc2 g dL_does_256 kc_L_68 ?_
      exact z_lret g hrt (by decide) (by decide) dL_does_259 (dp_x hX (fun h => by rw [e0] at h; exact absurd h (by decide)))
    · refine zx_catch g hhh (tableOf [(0, 253, 254, 66)]) ⟨0, 253, 260, 70⟩ (tableOf [(0, 253, 266, 72)]) rfl (fun z hz => by
        simp only [tableOf, List.map, List.mem_cons, List.not_mem_nil, or_false] at hz
        subst hz
        · exact Or.inr ⟨(by decide : (66 : Nat) ≠ 0), IOE, hl_IOE, nc_IAE_IOE⟩) (by decide) (show (70 : Nat) ≠ 0 by decide) hl_IAE hc_IAE (fun qq => ?_)
      refine z_astore g dL_does_260 (by rw [hN]; decide) ?_
      refine z_ldc2 g dL_does_262 kc_L_68 ?_
      exact z_lret g hrt (by decide) (by decide) dL_does_265 (dp_x hX (fun h => by rw [e1] at h; exact absurd h (by decide)))
  obtain ⟨hc0, rfl, g1, B2, hX2⟩ := h_9
  refine z_i2l g dL_does_54 ?_
  refine z_goto (tgt := 253) g dL_does_55 (by decide) ?_
  exact z_lret g hrt (by decide) (by decide) dL_does_253 (dp_0 hc0 g1 hX2)
set_option maxHeartbeats 4000000 in
set_option maxRecDepth 100000 in
theorem e_write (E : Ev) {B : Nat → Nat → Nat} {x : Nat} {S : Ms} (M : Mm) (hX : RX B x S M) (hV : INV S) (a b c : Int32) (w : Int64) : CTH E yL_does cL_does 8 (some .long) [(0, 253, 254, 66), (0, 253, 260, 70), (0, 253, 266, 72)] 12 16 500 [.ref x, .int 20, .int a, .int b, .int c, .long w] M (DP x M (g_write a b c w S)) noX := by
  refine CTH.of rfl (Nat.le_of_ble_eq_true rfl) (fun X g hrt hhh hE hN hR => ?_)
  subst hE
  have k11 : kd M x % 1000 = 11 := by rw [hX.1.1]
  refine z_iload_n g dL_does_0 rfl ?_
  refine z_bipush (v := 8) g dL_does_1 (by decide) ?_
  refine z_icmp_ge (tgt := 20) g dL_does_3 (by decide) (fun _ => ?_) (fun c_3 => absurd c_3 (by decide))
  refine z_iload_n g dL_does_20 rfl ?_
  refine z_bipush (v := 19) g dL_does_21 (by decide) ?_
  refine z_icmp_ge (tgt := 40) g dL_does_23 (by decide) (fun _ => ?_) (fun c_23 => absurd c_23 (by decide))
  refine z_iload_n g dL_does_40 rfl ?_
  refine z_bipush (v := 19) g dL_does_41 (by decide) ?_
  refine z_icmp_ne (tgt := 58) g dL_does_43 (by decide) (fun _ => ?_) (fun c_43 => absurd c_43 (by decide))
  refine z_iload_n g dL_does_58 rfl ?_
  refine z_bipush (v := 20) g dL_does_59 (by decide) ?_
  refine z_icmp_ne (tgt := 74) g dL_does_61 (by decide) (fun c_61 => absurd c_61 (by decide)) (fun _ => ?_)
  refine z_aload_n g dL_does_64 rfl ?_
  refine z_lload g dL_does_65 rfl ?_
  refine z_iload_n g dL_does_67 rfl ?_
  refine z_callV g _ _ cv_L_23 (k_write _ M hX hV w a) k11 (by decide) rfl (by rw [hR]; decide) (by rw [hR]; decide) (by rw [hR]; decide) (Nat.le_of_ble_eq_true rfl) rfl dL_does_68 (fun E9 M9 h9 => ?_) (fun r_9 M1 h_9 => ?_)
  · obtain ⟨rfl, h9⟩ := h9
    rcases h9 with ⟨e0, rfl⟩ | ⟨e1, rfl⟩
    · refine zx_catch g hhh (tableOf []) ⟨0, 253, 254, 66⟩ (tableOf [(0, 253, 260, 70), (0, 253, 266, 72)]) rfl (fun z hz => nomatch hz) (by decide) (show (66 : Nat) ≠ 0 by decide) hl_IOE hc_IOE (fun qq => ?_)
      refine z_astore g dL_does_254 (by rw [hN]; decide) ?_
      refine z_ldc2 g dL_does_256 kc_L_68 ?_
      exact z_lret g hrt (by decide) (by decide) dL_does_259 (dp_x hX (fun h => by rw [e0] at h; exact absurd h (by decide)))
    · refine zx_catch g hhh (tableOf [(0, 253, 254, 66)]) ⟨0, 253, 260, 70⟩ (tableOf [(0, 253, 266, 72)]) rfl (fun z hz => by
        simp only [tableOf, List.map, List.mem_cons, List.not_mem_nil, or_false] at hz
        subst hz
        · exact Or.inr ⟨(by decide : (66 : Nat) ≠ 0), IOE, hl_IOE, nc_IAE_IOE⟩) (by decide) (show (70 : Nat) ≠ 0 by decide) hl_IAE hc_IAE (fun qq => ?_)
      refine z_astore g dL_does_260 (by rw [hN]; decide) ?_
      refine z_ldc2 g dL_does_262 kc_L_68 ?_
      exact z_lret g hrt (by decide) (by decide) dL_does_265 (dp_x hX (fun h => by rw [e1] at h; exact absurd h (by decide)))
  obtain ⟨hc0, rfl, g1, B2, hX2⟩ := h_9
  refine z_goto (tgt := 253) g dL_does_71 (by decide) ?_
  exact z_lret g hrt (by decide) (by decide) dL_does_253 (dp_0 hc0 g1 hX2)
set_option maxHeartbeats 4000000 in
set_option maxRecDepth 100000 in
theorem e_back (E : Ev) {B : Nat → Nat → Nat} {x : Nat} {S : Ms} (M : Mm) (hX : RX B x S M) (hV : INV S) (a b c : Int32) (w : Int64) : CTH E yL_does cL_does 8 (some .long) [(0, 253, 254, 66), (0, 253, 260, 70), (0, 253, 266, 72)] 12 16 500 [.ref x, .int 21, .int a, .int b, .int c, .long w] M (DP x M (g_back a b c w S)) noX := by
  refine CTH.of rfl (Nat.le_of_ble_eq_true rfl) (fun X g hrt hhh hE hN hR => ?_)
  subst hE
  have k11 : kd M x % 1000 = 11 := by rw [hX.1.1]
  refine z_iload_n g dL_does_0 rfl ?_
  refine z_bipush (v := 8) g dL_does_1 (by decide) ?_
  refine z_icmp_ge (tgt := 20) g dL_does_3 (by decide) (fun _ => ?_) (fun c_3 => absurd c_3 (by decide))
  refine z_iload_n g dL_does_20 rfl ?_
  refine z_bipush (v := 19) g dL_does_21 (by decide) ?_
  refine z_icmp_ge (tgt := 40) g dL_does_23 (by decide) (fun _ => ?_) (fun c_23 => absurd c_23 (by decide))
  refine z_iload_n g dL_does_40 rfl ?_
  refine z_bipush (v := 19) g dL_does_41 (by decide) ?_
  refine z_icmp_ne (tgt := 58) g dL_does_43 (by decide) (fun _ => ?_) (fun c_43 => absurd c_43 (by decide))
  refine z_iload_n g dL_does_58 rfl ?_
  refine z_bipush (v := 20) g dL_does_59 (by decide) ?_
  refine z_icmp_ne (tgt := 74) g dL_does_61 (by decide) (fun _ => ?_) (fun c_61 => absurd c_61 (by decide))
  refine z_iload_n g dL_does_74 rfl ?_
  refine z_bipush (v := 21) g dL_does_75 (by decide) ?_
  refine z_icmp_ne (tgt := 90) g dL_does_77 (by decide) (fun c_77 => absurd c_77 (by decide)) (fun _ => ?_)
  refine z_aload_n g dL_does_80 rfl ?_
  refine z_lload g dL_does_81 rfl ?_
  refine z_iload_n g dL_does_83 rfl ?_
  refine z_callV g _ _ cv_L_27 (k_back _ M hX hV w a) k11 (by decide) rfl (by rw [hR]; decide) (by rw [hR]; decide) (by rw [hR]; decide) (Nat.le_of_ble_eq_true rfl) rfl dL_does_84 (fun E9 M9 h9 => ?_) (fun r_9 M1 h_9 => ?_)
  · obtain ⟨rfl, h9⟩ := h9
    rcases h9 with ⟨e0, rfl⟩ | ⟨e1, rfl⟩
    · refine zx_catch g hhh (tableOf []) ⟨0, 253, 254, 66⟩ (tableOf [(0, 253, 260, 70), (0, 253, 266, 72)]) rfl (fun z hz => nomatch hz) (by decide) (show (66 : Nat) ≠ 0 by decide) hl_IOE hc_IOE (fun qq => ?_)
      refine z_astore g dL_does_254 (by rw [hN]; decide) ?_
      refine z_ldc2 g dL_does_256 kc_L_68 ?_
      exact z_lret g hrt (by decide) (by decide) dL_does_259 (dp_x hX (fun h => by rw [e0] at h; exact absurd h (by decide)))
    · refine zx_catch g hhh (tableOf [(0, 253, 254, 66)]) ⟨0, 253, 260, 70⟩ (tableOf [(0, 253, 266, 72)]) rfl (fun z hz => by
        simp only [tableOf, List.map, List.mem_cons, List.not_mem_nil, or_false] at hz
        subst hz
        · exact Or.inr ⟨(by decide : (66 : Nat) ≠ 0), IOE, hl_IOE, nc_IAE_IOE⟩) (by decide) (show (70 : Nat) ≠ 0 by decide) hl_IAE hc_IAE (fun qq => ?_)
      refine z_astore g dL_does_260 (by rw [hN]; decide) ?_
      refine z_ldc2 g dL_does_262 kc_L_68 ?_
      exact z_lret g hrt (by decide) (by decide) dL_does_265 (dp_x hX (fun h => by rw [e1] at h; exact absurd h (by decide)))
  obtain ⟨hc0, rfl, g1, B2, hX2⟩ := h_9
  refine z_goto (tgt := 253) g dL_does_87 (by decide) ?_
  exact z_lret g hrt (by decide) (by decide) dL_does_253 (dp_0 hc0 g1 hX2)
set_option maxHeartbeats 4000000 in
set_option maxRecDepth 100000 in
theorem e_loss (E : Ev) {B : Nat → Nat → Nat} {x : Nat} {S : Ms} (M : Mm) (hX : RX B x S M) (hV : INV S) (a b c : Int32) (w : Int64) : CTH E yL_does cL_does 8 (some .long) [(0, 253, 254, 66), (0, 253, 260, 70), (0, 253, 266, 72)] 12 16 500 [.ref x, .int 22, .int a, .int b, .int c, .long w] M (DP x M (g_loss a b c w S)) noX := by
  refine CTH.of rfl (Nat.le_of_ble_eq_true rfl) (fun X g hrt hhh hE hN hR => ?_)
  subst hE
  have k11 : kd M x % 1000 = 11 := by rw [hX.1.1]
  refine z_iload_n g dL_does_0 rfl ?_
  refine z_bipush (v := 8) g dL_does_1 (by decide) ?_
  refine z_icmp_ge (tgt := 20) g dL_does_3 (by decide) (fun _ => ?_) (fun c_3 => absurd c_3 (by decide))
  refine z_iload_n g dL_does_20 rfl ?_
  refine z_bipush (v := 19) g dL_does_21 (by decide) ?_
  refine z_icmp_ge (tgt := 40) g dL_does_23 (by decide) (fun _ => ?_) (fun c_23 => absurd c_23 (by decide))
  refine z_iload_n g dL_does_40 rfl ?_
  refine z_bipush (v := 19) g dL_does_41 (by decide) ?_
  refine z_icmp_ne (tgt := 58) g dL_does_43 (by decide) (fun _ => ?_) (fun c_43 => absurd c_43 (by decide))
  refine z_iload_n g dL_does_58 rfl ?_
  refine z_bipush (v := 20) g dL_does_59 (by decide) ?_
  refine z_icmp_ne (tgt := 74) g dL_does_61 (by decide) (fun _ => ?_) (fun c_61 => absurd c_61 (by decide))
  refine z_iload_n g dL_does_74 rfl ?_
  refine z_bipush (v := 21) g dL_does_75 (by decide) ?_
  refine z_icmp_ne (tgt := 90) g dL_does_77 (by decide) (fun _ => ?_) (fun c_77 => absurd c_77 (by decide))
  refine z_iload_n g dL_does_90 rfl ?_
  refine z_bipush (v := 22) g dL_does_91 (by decide) ?_
  refine z_icmp_ne (tgt := 105) g dL_does_93 (by decide) (fun c_93 => absurd c_93 (by decide)) (fun _ => ?_)
  refine z_aload_n g dL_does_96 rfl ?_
  refine z_iload_n g dL_does_97 rfl ?_
  refine z_callV g _ _ cv_L_30 (k_loss _ M hX hV a) k11 (by decide) rfl (by rw [hR]; decide) (by rw [hR]; decide) (by rw [hR]; decide) (Nat.le_of_ble_eq_true rfl) rfl dL_does_98 (fun E9 M9 h9 => ?_) (fun r_9 M1 h_9 => ?_)
  · obtain ⟨rfl, h9⟩ := h9
    obtain ⟨e0, rfl⟩ := h9
    · refine zx_catch g hhh (tableOf []) ⟨0, 253, 254, 66⟩ (tableOf [(0, 253, 260, 70), (0, 253, 266, 72)]) rfl (fun z hz => nomatch hz) (by decide) (show (66 : Nat) ≠ 0 by decide) hl_IOE hc_IOE (fun qq => ?_)
      refine z_astore g dL_does_254 (by rw [hN]; decide) ?_
      refine z_ldc2 g dL_does_256 kc_L_68 ?_
      exact z_lret g hrt (by decide) (by decide) dL_does_259 (dp_x hX (fun h => by rw [e0] at h; exact absurd h (by decide)))
  obtain ⟨hc0, rfl, g1, B2, hX2⟩ := h_9
  refine z_i2l g dL_does_101 ?_
  refine z_goto (tgt := 253) g dL_does_102 (by decide) ?_
  exact z_lret g hrt (by decide) (by decide) dL_does_253 (dp_0 hc0 g1 hX2)
set_option maxHeartbeats 4000000 in
set_option maxRecDepth 100000 in
theorem e_reading (E : Ev) {B : Nat → Nat → Nat} {x : Nat} {S : Ms} (M : Mm) (hX : RX B x S M) (hV : INV S) (a b c : Int32) (w : Int64) : CTH E yL_does cL_does 8 (some .long) [(0, 253, 254, 66), (0, 253, 260, 70), (0, 253, 266, 72)] 12 16 500 [.ref x, .int 23, .int a, .int b, .int c, .long w] M (DP x M (g_reading a b c w S)) noX := by
  refine CTH.of rfl (Nat.le_of_ble_eq_true rfl) (fun X g hrt hhh hE hN hR => ?_)
  subst hE
  have k11 : kd M x % 1000 = 11 := by rw [hX.1.1]
  refine z_iload_n g dL_does_0 rfl ?_
  refine z_bipush (v := 8) g dL_does_1 (by decide) ?_
  refine z_icmp_ge (tgt := 20) g dL_does_3 (by decide) (fun _ => ?_) (fun c_3 => absurd c_3 (by decide))
  refine z_iload_n g dL_does_20 rfl ?_
  refine z_bipush (v := 19) g dL_does_21 (by decide) ?_
  refine z_icmp_ge (tgt := 40) g dL_does_23 (by decide) (fun _ => ?_) (fun c_23 => absurd c_23 (by decide))
  refine z_iload_n g dL_does_40 rfl ?_
  refine z_bipush (v := 19) g dL_does_41 (by decide) ?_
  refine z_icmp_ne (tgt := 58) g dL_does_43 (by decide) (fun _ => ?_) (fun c_43 => absurd c_43 (by decide))
  refine z_iload_n g dL_does_58 rfl ?_
  refine z_bipush (v := 20) g dL_does_59 (by decide) ?_
  refine z_icmp_ne (tgt := 74) g dL_does_61 (by decide) (fun _ => ?_) (fun c_61 => absurd c_61 (by decide))
  refine z_iload_n g dL_does_74 rfl ?_
  refine z_bipush (v := 21) g dL_does_75 (by decide) ?_
  refine z_icmp_ne (tgt := 90) g dL_does_77 (by decide) (fun _ => ?_) (fun c_77 => absurd c_77 (by decide))
  refine z_iload_n g dL_does_90 rfl ?_
  refine z_bipush (v := 22) g dL_does_91 (by decide) ?_
  refine z_icmp_ne (tgt := 105) g dL_does_93 (by decide) (fun _ => ?_) (fun c_93 => absurd c_93 (by decide))
  refine z_iload_n g dL_does_105 rfl ?_
  refine z_bipush (v := 23) g dL_does_106 (by decide) ?_
  refine z_icmp_ne (tgt := 129) g dL_does_108 (by decide) (fun c_108 => absurd c_108 (by decide)) (fun _ => ?_)
  refine z_aload_n g dL_does_111 rfl ?_
  refine z_lload g dL_does_112 rfl ?_
  refine z_iload_n g dL_does_114 rfl ?_
  refine z_bipush (v := 100) g dL_does_115 (by decide) ?_
  refine z_idiv g dL_does_117 (by decide) ?_
  refine z_iload_n g dL_does_118 rfl ?_
  refine z_bipush (v := 100) g dL_does_119 (by decide) ?_
  refine z_irem g dL_does_121 (by decide) ?_
  refine z_callV g _ _ cv_L_34 (k_reading _ M hX hV w (b / 100) (b - b / 100 * 100)) k11 (by decide) rfl (by rw [hR]; decide) (by rw [hR]; decide) (by rw [hR]; decide) (Nat.le_of_ble_eq_true rfl) rfl dL_does_122 (fun E9 M9 h9 => ?_) (fun r_9 M1 h_9 => ?_)
  · obtain ⟨rfl, h9⟩ := h9
    rcases h9 with ⟨e0, rfl⟩ | ⟨e1, rfl⟩
    · refine zx_catch g hhh (tableOf [(0, 253, 254, 66)]) ⟨0, 253, 260, 70⟩ (tableOf [(0, 253, 266, 72)]) rfl (fun z hz => by
        simp only [tableOf, List.map, List.mem_cons, List.not_mem_nil, or_false] at hz
        subst hz
        · exact Or.inr ⟨(by decide : (66 : Nat) ≠ 0), IOE, hl_IOE, nc_IAE_IOE⟩) (by decide) (show (70 : Nat) ≠ 0 by decide) hl_IAE hc_IAE (fun qq => ?_)
      refine z_astore g dL_does_260 (by rw [hN]; decide) ?_
      refine z_ldc2 g dL_does_262 kc_L_68 ?_
      exact z_lret g hrt (by decide) (by decide) dL_does_265 (dp_x hX (fun h => by rw [e0] at h; exact absurd h (by decide)))
    · refine zx_catch g hhh (tableOf [(0, 253, 254, 66), (0, 253, 260, 70)]) ⟨0, 253, 266, 72⟩ (tableOf []) rfl (fun z hz => by
        simp only [tableOf, List.map, List.mem_cons, List.not_mem_nil, or_false] at hz
        rcases hz with rfl | rfl
        · exact Or.inr ⟨(by decide : (66 : Nat) ≠ 0), IOE, hl_IOE, nc_ISE_IOE⟩
        · exact Or.inr ⟨(by decide : (70 : Nat) ≠ 0), IAE, hl_IAE, nc_ISE_IAE⟩) (by decide) (show (72 : Nat) ≠ 0 by decide) hl_ISE hc_ISE (fun qq => ?_)
      refine z_astore g dL_does_266 (by rw [hN]; decide) ?_
      refine z_ldc2 g dL_does_268 kc_L_68 ?_
      exact z_lret g hrt (by decide) (by decide) dL_does_271 (dp_x hX (fun h => by rw [e1] at h; exact absurd h (by decide)))
  obtain ⟨hc0, rfl, g1, B2, hX2⟩ := h_9
  refine z_i2l g dL_does_125 ?_
  refine z_goto (tgt := 253) g dL_does_126 (by decide) ?_
  exact z_lret g hrt (by decide) (by decide) dL_does_253 (dp_0 hc0 g1 hX2)
set_option maxHeartbeats 4000000 in
set_option maxRecDepth 100000 in
theorem e_cost (E : Ev) {B : Nat → Nat → Nat} {x : Nat} {S : Ms} (M : Mm) (hX : RX B x S M) (hV : INV S) (a b c : Int32) (w : Int64) : CTH E yL_does cL_does 8 (some .long) [(0, 253, 254, 66), (0, 253, 260, 70), (0, 253, 266, 72)] 12 16 500 [.ref x, .int 24, .int a, .int b, .int c, .long w] M (DP x M (g_cost a b c w S)) noX := by
  refine CTH.of rfl (Nat.le_of_ble_eq_true rfl) (fun X g hrt hhh hE hN hR => ?_)
  subst hE
  have k11 : kd M x % 1000 = 11 := by rw [hX.1.1]
  refine z_iload_n g dL_does_0 rfl ?_
  refine z_bipush (v := 8) g dL_does_1 (by decide) ?_
  refine z_icmp_ge (tgt := 20) g dL_does_3 (by decide) (fun _ => ?_) (fun c_3 => absurd c_3 (by decide))
  refine z_iload_n g dL_does_20 rfl ?_
  refine z_bipush (v := 19) g dL_does_21 (by decide) ?_
  refine z_icmp_ge (tgt := 40) g dL_does_23 (by decide) (fun _ => ?_) (fun c_23 => absurd c_23 (by decide))
  refine z_iload_n g dL_does_40 rfl ?_
  refine z_bipush (v := 19) g dL_does_41 (by decide) ?_
  refine z_icmp_ne (tgt := 58) g dL_does_43 (by decide) (fun _ => ?_) (fun c_43 => absurd c_43 (by decide))
  refine z_iload_n g dL_does_58 rfl ?_
  refine z_bipush (v := 20) g dL_does_59 (by decide) ?_
  refine z_icmp_ne (tgt := 74) g dL_does_61 (by decide) (fun _ => ?_) (fun c_61 => absurd c_61 (by decide))
  refine z_iload_n g dL_does_74 rfl ?_
  refine z_bipush (v := 21) g dL_does_75 (by decide) ?_
  refine z_icmp_ne (tgt := 90) g dL_does_77 (by decide) (fun _ => ?_) (fun c_77 => absurd c_77 (by decide))
  refine z_iload_n g dL_does_90 rfl ?_
  refine z_bipush (v := 22) g dL_does_91 (by decide) ?_
  refine z_icmp_ne (tgt := 105) g dL_does_93 (by decide) (fun _ => ?_) (fun c_93 => absurd c_93 (by decide))
  refine z_iload_n g dL_does_105 rfl ?_
  refine z_bipush (v := 23) g dL_does_106 (by decide) ?_
  refine z_icmp_ne (tgt := 129) g dL_does_108 (by decide) (fun _ => ?_) (fun c_108 => absurd c_108 (by decide))
  refine z_iload_n g dL_does_129 rfl ?_
  refine z_bipush (v := 24) g dL_does_130 (by decide) ?_
  refine z_icmp_ne (tgt := 145) g dL_does_132 (by decide) (fun c_132 => absurd c_132 (by decide)) (fun _ => ?_)
  refine z_aload_n g dL_does_135 rfl ?_
  refine z_iload_n g dL_does_136 rfl ?_
  refine z_iload_n g dL_does_137 rfl ?_
  refine z_callV g _ _ cv_L_38 (k_callCost _ M hX hV a b) k11 (by decide) rfl (by rw [hR]; decide) (by rw [hR]; decide) (by rw [hR]; decide) (Nat.le_of_ble_eq_true rfl) rfl dL_does_138 (fun E9 M9 h9 => ?_) (fun r_9 M1 h_9 => ?_)
  · obtain ⟨rfl, h9⟩ := h9
    obtain ⟨e0, rfl⟩ := h9
    · refine zx_catch g hhh (tableOf []) ⟨0, 253, 254, 66⟩ (tableOf [(0, 253, 260, 70), (0, 253, 266, 72)]) rfl (fun z hz => nomatch hz) (by decide) (show (66 : Nat) ≠ 0 by decide) hl_IOE hc_IOE (fun qq => ?_)
      refine z_astore g dL_does_254 (by rw [hN]; decide) ?_
      refine z_ldc2 g dL_does_256 kc_L_68 ?_
      exact z_lret g hrt (by decide) (by decide) dL_does_259 (dp_x hX (fun h => by rw [e0] at h; exact absurd h (by decide)))
  obtain ⟨hc0, rfl, g1, B2, hX2⟩ := h_9
  refine z_i2l g dL_does_141 ?_
  refine z_goto (tgt := 253) g dL_does_142 (by decide) ?_
  exact z_lret g hrt (by decide) (by decide) dL_does_253 (dp_0 hc0 g1 hX2)
set_option maxHeartbeats 4000000 in
set_option maxRecDepth 100000 in
theorem e_find (E : Ev) {B : Nat → Nat → Nat} {x : Nat} {S : Ms} (M : Mm) (hX : RX B x S M) (hV : INV S) (a b c : Int32) (w : Int64) : CTH E yL_does cL_does 8 (some .long) [(0, 253, 254, 66), (0, 253, 260, 70), (0, 253, 266, 72)] 12 16 500 [.ref x, .int 25, .int a, .int b, .int c, .long w] M (DP x M (g_find a b c w S)) noX := by
  refine CTH.of rfl (Nat.le_of_ble_eq_true rfl) (fun X g hrt hhh hE hN hR => ?_)
  subst hE
  have k11 : kd M x % 1000 = 11 := by rw [hX.1.1]
  refine z_iload_n g dL_does_0 rfl ?_
  refine z_bipush (v := 8) g dL_does_1 (by decide) ?_
  refine z_icmp_ge (tgt := 20) g dL_does_3 (by decide) (fun _ => ?_) (fun c_3 => absurd c_3 (by decide))
  refine z_iload_n g dL_does_20 rfl ?_
  refine z_bipush (v := 19) g dL_does_21 (by decide) ?_
  refine z_icmp_ge (tgt := 40) g dL_does_23 (by decide) (fun _ => ?_) (fun c_23 => absurd c_23 (by decide))
  refine z_iload_n g dL_does_40 rfl ?_
  refine z_bipush (v := 19) g dL_does_41 (by decide) ?_
  refine z_icmp_ne (tgt := 58) g dL_does_43 (by decide) (fun _ => ?_) (fun c_43 => absurd c_43 (by decide))
  refine z_iload_n g dL_does_58 rfl ?_
  refine z_bipush (v := 20) g dL_does_59 (by decide) ?_
  refine z_icmp_ne (tgt := 74) g dL_does_61 (by decide) (fun _ => ?_) (fun c_61 => absurd c_61 (by decide))
  refine z_iload_n g dL_does_74 rfl ?_
  refine z_bipush (v := 21) g dL_does_75 (by decide) ?_
  refine z_icmp_ne (tgt := 90) g dL_does_77 (by decide) (fun _ => ?_) (fun c_77 => absurd c_77 (by decide))
  refine z_iload_n g dL_does_90 rfl ?_
  refine z_bipush (v := 22) g dL_does_91 (by decide) ?_
  refine z_icmp_ne (tgt := 105) g dL_does_93 (by decide) (fun _ => ?_) (fun c_93 => absurd c_93 (by decide))
  refine z_iload_n g dL_does_105 rfl ?_
  refine z_bipush (v := 23) g dL_does_106 (by decide) ?_
  refine z_icmp_ne (tgt := 129) g dL_does_108 (by decide) (fun _ => ?_) (fun c_108 => absurd c_108 (by decide))
  refine z_iload_n g dL_does_129 rfl ?_
  refine z_bipush (v := 24) g dL_does_130 (by decide) ?_
  refine z_icmp_ne (tgt := 145) g dL_does_132 (by decide) (fun _ => ?_) (fun c_132 => absurd c_132 (by decide))
  refine z_iload_n g dL_does_145 rfl ?_
  refine z_bipush (v := 25) g dL_does_146 (by decide) ?_
  refine z_icmp_ne (tgt := 171) g dL_does_148 (by decide) (fun c_148 => absurd c_148 (by decide)) (fun _ => ?_)
  refine z_aload_n g dL_does_151 rfl ?_
  refine z_lload g dL_does_152 rfl ?_
  refine z_iload_n g dL_does_154 rfl ?_
  refine z_bipush (v := 100) g dL_does_155 (by decide) ?_
  refine z_idiv g dL_does_157 (by decide) ?_
  refine z_iload_n g dL_does_158 rfl ?_
  refine z_bipush (v := 100) g dL_does_159 (by decide) ?_
  refine z_irem g dL_does_161 (by decide) ?_
  refine z_iload g dL_does_162 rfl ?_
  refine z_callV g _ _ cv_L_42 (k_find _ M hX hV w (b / 100) (b - b / 100 * 100) c) k11 (by decide) rfl (by rw [hR]; decide) (by rw [hR]; decide) (by rw [hR]; decide) (Nat.le_of_ble_eq_true rfl) rfl dL_does_164 (fun E9 M9 h9 => ?_) (fun r_9 M1 h_9 => ?_)
  · obtain ⟨rfl, h9⟩ := h9
    rcases h9 with ⟨e0, rfl⟩ | ⟨e1, rfl⟩
    · refine zx_catch g hhh (tableOf []) ⟨0, 253, 254, 66⟩ (tableOf [(0, 253, 260, 70), (0, 253, 266, 72)]) rfl (fun z hz => nomatch hz) (by decide) (show (66 : Nat) ≠ 0 by decide) hl_IOE hc_IOE (fun qq => ?_)
      refine z_astore g dL_does_254 (by rw [hN]; decide) ?_
      refine z_ldc2 g dL_does_256 kc_L_68 ?_
      exact z_lret g hrt (by decide) (by decide) dL_does_259 (dp_x hX (fun h => by rw [e0] at h; exact absurd h (by decide)))
    · refine zx_catch g hhh (tableOf [(0, 253, 254, 66)]) ⟨0, 253, 260, 70⟩ (tableOf [(0, 253, 266, 72)]) rfl (fun z hz => by
        simp only [tableOf, List.map, List.mem_cons, List.not_mem_nil, or_false] at hz
        subst hz
        · exact Or.inr ⟨(by decide : (66 : Nat) ≠ 0), IOE, hl_IOE, nc_IAE_IOE⟩) (by decide) (show (70 : Nat) ≠ 0 by decide) hl_IAE hc_IAE (fun qq => ?_)
      refine z_astore g dL_does_260 (by rw [hN]; decide) ?_
      refine z_ldc2 g dL_does_262 kc_L_68 ?_
      exact z_lret g hrt (by decide) (by decide) dL_does_265 (dp_x hX (fun h => by rw [e1] at h; exact absurd h (by decide)))
  obtain ⟨hc0, rfl, g1, B2, hX2⟩ := h_9
  refine z_i2l g dL_does_167 ?_
  refine z_goto (tgt := 253) g dL_does_168 (by decide) ?_
  exact z_lret g hrt (by decide) (by decide) dL_does_253 (dp_0 hc0 g1 hX2)
set_option maxHeartbeats 4000000 in
set_option maxRecDepth 100000 in
theorem e_pull (E : Ev) {B : Nat → Nat → Nat} {x : Nat} {S : Ms} (M : Mm) (hX : RX B x S M) (hV : INV S) (a b c : Int32) (w : Int64) : CTH E yL_does cL_does 8 (some .long) [(0, 253, 254, 66), (0, 253, 260, 70), (0, 253, 266, 72)] 12 16 500 [.ref x, .int 26, .int a, .int b, .int c, .long w] M (DP x M (g_pull a b c w S)) noX := by
  refine CTH.of rfl (Nat.le_of_ble_eq_true rfl) (fun X g hrt hhh hE hN hR => ?_)
  subst hE
  have k11 : kd M x % 1000 = 11 := by rw [hX.1.1]
  refine z_iload_n g dL_does_0 rfl ?_
  refine z_bipush (v := 8) g dL_does_1 (by decide) ?_
  refine z_icmp_ge (tgt := 20) g dL_does_3 (by decide) (fun _ => ?_) (fun c_3 => absurd c_3 (by decide))
  refine z_iload_n g dL_does_20 rfl ?_
  refine z_bipush (v := 19) g dL_does_21 (by decide) ?_
  refine z_icmp_ge (tgt := 40) g dL_does_23 (by decide) (fun _ => ?_) (fun c_23 => absurd c_23 (by decide))
  refine z_iload_n g dL_does_40 rfl ?_
  refine z_bipush (v := 19) g dL_does_41 (by decide) ?_
  refine z_icmp_ne (tgt := 58) g dL_does_43 (by decide) (fun _ => ?_) (fun c_43 => absurd c_43 (by decide))
  refine z_iload_n g dL_does_58 rfl ?_
  refine z_bipush (v := 20) g dL_does_59 (by decide) ?_
  refine z_icmp_ne (tgt := 74) g dL_does_61 (by decide) (fun _ => ?_) (fun c_61 => absurd c_61 (by decide))
  refine z_iload_n g dL_does_74 rfl ?_
  refine z_bipush (v := 21) g dL_does_75 (by decide) ?_
  refine z_icmp_ne (tgt := 90) g dL_does_77 (by decide) (fun _ => ?_) (fun c_77 => absurd c_77 (by decide))
  refine z_iload_n g dL_does_90 rfl ?_
  refine z_bipush (v := 22) g dL_does_91 (by decide) ?_
  refine z_icmp_ne (tgt := 105) g dL_does_93 (by decide) (fun _ => ?_) (fun c_93 => absurd c_93 (by decide))
  refine z_iload_n g dL_does_105 rfl ?_
  refine z_bipush (v := 23) g dL_does_106 (by decide) ?_
  refine z_icmp_ne (tgt := 129) g dL_does_108 (by decide) (fun _ => ?_) (fun c_108 => absurd c_108 (by decide))
  refine z_iload_n g dL_does_129 rfl ?_
  refine z_bipush (v := 24) g dL_does_130 (by decide) ?_
  refine z_icmp_ne (tgt := 145) g dL_does_132 (by decide) (fun _ => ?_) (fun c_132 => absurd c_132 (by decide))
  refine z_iload_n g dL_does_145 rfl ?_
  refine z_bipush (v := 25) g dL_does_146 (by decide) ?_
  refine z_icmp_ne (tgt := 171) g dL_does_148 (by decide) (fun _ => ?_) (fun c_148 => absurd c_148 (by decide))
  refine z_iload_n g dL_does_171 rfl ?_
  refine z_bipush (v := 26) g dL_does_172 (by decide) ?_
  refine z_icmp_ne (tgt := 186) g dL_does_174 (by decide) (fun c_174 => absurd c_174 (by decide)) (fun _ => ?_)
  refine z_aload_n g dL_does_177 rfl ?_
  refine z_iload_n g dL_does_178 rfl ?_
  refine z_callV g _ _ cv_L_46 (k_pull _ M hX hV a) k11 (by decide) rfl (by rw [hR]; decide) (by rw [hR]; decide) (by rw [hR]; decide) (Nat.le_of_ble_eq_true rfl) rfl dL_does_179 (fun E9 M9 h9 => ?_) (fun r_9 M1 h_9 => ?_)
  · obtain ⟨rfl, h9⟩ := h9
    obtain ⟨e0, rfl⟩ := h9
    · refine zx_catch g hhh (tableOf []) ⟨0, 253, 254, 66⟩ (tableOf [(0, 253, 260, 70), (0, 253, 266, 72)]) rfl (fun z hz => nomatch hz) (by decide) (show (66 : Nat) ≠ 0 by decide) hl_IOE hc_IOE (fun qq => ?_)
      refine z_astore g dL_does_254 (by rw [hN]; decide) ?_
      refine z_ldc2 g dL_does_256 kc_L_68 ?_
      exact z_lret g hrt (by decide) (by decide) dL_does_259 (dp_x hX (fun h => by rw [e0] at h; exact absurd h (by decide)))
  obtain ⟨hc0, rfl, g1, B2, hX2⟩ := h_9
  refine z_i2l g dL_does_182 ?_
  refine z_goto (tgt := 253) g dL_does_183 (by decide) ?_
  exact z_lret g hrt (by decide) (by decide) dL_does_253 (dp_0 hc0 g1 hX2)
set_option maxHeartbeats 4000000 in
set_option maxRecDepth 100000 in
theorem e_copy (E : Ev) {B : Nat → Nat → Nat} {x : Nat} {S : Ms} (M : Mm) (hX : RX B x S M) (hV : INV S) (a b c : Int32) (w : Int64) : CTH E yL_does cL_does 8 (some .long) [(0, 253, 254, 66), (0, 253, 260, 70), (0, 253, 266, 72)] 12 16 500 [.ref x, .int 27, .int a, .int b, .int c, .long w] M (DP x M (g_copy a b c w S)) noX := by
  refine CTH.of rfl (Nat.le_of_ble_eq_true rfl) (fun X g hrt hhh hE hN hR => ?_)
  subst hE
  have k11 : kd M x % 1000 = 11 := by rw [hX.1.1]
  refine z_iload_n g dL_does_0 rfl ?_
  refine z_bipush (v := 8) g dL_does_1 (by decide) ?_
  refine z_icmp_ge (tgt := 20) g dL_does_3 (by decide) (fun _ => ?_) (fun c_3 => absurd c_3 (by decide))
  refine z_iload_n g dL_does_20 rfl ?_
  refine z_bipush (v := 19) g dL_does_21 (by decide) ?_
  refine z_icmp_ge (tgt := 40) g dL_does_23 (by decide) (fun _ => ?_) (fun c_23 => absurd c_23 (by decide))
  refine z_iload_n g dL_does_40 rfl ?_
  refine z_bipush (v := 19) g dL_does_41 (by decide) ?_
  refine z_icmp_ne (tgt := 58) g dL_does_43 (by decide) (fun _ => ?_) (fun c_43 => absurd c_43 (by decide))
  refine z_iload_n g dL_does_58 rfl ?_
  refine z_bipush (v := 20) g dL_does_59 (by decide) ?_
  refine z_icmp_ne (tgt := 74) g dL_does_61 (by decide) (fun _ => ?_) (fun c_61 => absurd c_61 (by decide))
  refine z_iload_n g dL_does_74 rfl ?_
  refine z_bipush (v := 21) g dL_does_75 (by decide) ?_
  refine z_icmp_ne (tgt := 90) g dL_does_77 (by decide) (fun _ => ?_) (fun c_77 => absurd c_77 (by decide))
  refine z_iload_n g dL_does_90 rfl ?_
  refine z_bipush (v := 22) g dL_does_91 (by decide) ?_
  refine z_icmp_ne (tgt := 105) g dL_does_93 (by decide) (fun _ => ?_) (fun c_93 => absurd c_93 (by decide))
  refine z_iload_n g dL_does_105 rfl ?_
  refine z_bipush (v := 23) g dL_does_106 (by decide) ?_
  refine z_icmp_ne (tgt := 129) g dL_does_108 (by decide) (fun _ => ?_) (fun c_108 => absurd c_108 (by decide))
  refine z_iload_n g dL_does_129 rfl ?_
  refine z_bipush (v := 24) g dL_does_130 (by decide) ?_
  refine z_icmp_ne (tgt := 145) g dL_does_132 (by decide) (fun _ => ?_) (fun c_132 => absurd c_132 (by decide))
  refine z_iload_n g dL_does_145 rfl ?_
  refine z_bipush (v := 25) g dL_does_146 (by decide) ?_
  refine z_icmp_ne (tgt := 171) g dL_does_148 (by decide) (fun _ => ?_) (fun c_148 => absurd c_148 (by decide))
  refine z_iload_n g dL_does_171 rfl ?_
  refine z_bipush (v := 26) g dL_does_172 (by decide) ?_
  refine z_icmp_ne (tgt := 186) g dL_does_174 (by decide) (fun _ => ?_) (fun c_174 => absurd c_174 (by decide))
  refine z_iload_n g dL_does_186 rfl ?_
  refine z_bipush (v := 27) g dL_does_187 (by decide) ?_
  refine z_icmp_ne (tgt := 203) g dL_does_189 (by decide) (fun c_189 => absurd c_189 (by decide)) (fun _ => ?_)
  refine z_aload_n g dL_does_192 rfl ?_
  refine z_iload_n g dL_does_193 rfl ?_
  refine z_iload_n g dL_does_194 rfl ?_
  refine z_iload g dL_does_195 rfl ?_
  refine z_callV g _ _ cv_L_49 (k_copy _ M hX hV a b c) k11 (by decide) rfl (by rw [hR]; decide) (by rw [hR]; decide) (by rw [hR]; decide) (Nat.le_of_ble_eq_true rfl) rfl dL_does_197 (fun E9 M9 h9 => ?_) (fun r_9 M1 h_9 => ?_)
  · obtain ⟨rfl, h9⟩ := h9
    obtain ⟨e0, rfl⟩ := h9
    · refine zx_catch g hhh (tableOf []) ⟨0, 253, 254, 66⟩ (tableOf [(0, 253, 260, 70), (0, 253, 266, 72)]) rfl (fun z hz => nomatch hz) (by decide) (show (66 : Nat) ≠ 0 by decide) hl_IOE hc_IOE (fun qq => ?_)
      refine z_astore g dL_does_254 (by rw [hN]; decide) ?_
      refine z_ldc2 g dL_does_256 kc_L_68 ?_
      exact z_lret g hrt (by decide) (by decide) dL_does_259 (dp_x hX (fun h => by rw [e0] at h; exact absurd h (by decide)))
  obtain ⟨hc0, rfl, g1, B2, hX2⟩ := h_9
  refine z_goto (tgt := 253) g dL_does_200 (by decide) ?_
  exact z_lret g hrt (by decide) (by decide) dL_does_253 (dp_0 hc0 g1 hX2)
set_option maxHeartbeats 4000000 in
set_option maxRecDepth 100000 in
theorem e_order (E : Ev) {B : Nat → Nat → Nat} {x : Nat} {S : Ms} (M : Mm) (hX : RX B x S M) (hV : INV S) (a b c : Int32) (w : Int64) : CTH E yL_does cL_does 8 (some .long) [(0, 253, 254, 66), (0, 253, 260, 70), (0, 253, 266, 72)] 12 16 500 [.ref x, .int 28, .int a, .int b, .int c, .long w] M (DP x M (g_order a b c w S)) noX := by
  refine CTH.of rfl (Nat.le_of_ble_eq_true rfl) (fun X g hrt hhh hE hN hR => ?_)
  subst hE
  have k11 : kd M x % 1000 = 11 := by rw [hX.1.1]
  refine z_iload_n g dL_does_0 rfl ?_
  refine z_bipush (v := 8) g dL_does_1 (by decide) ?_
  refine z_icmp_ge (tgt := 20) g dL_does_3 (by decide) (fun _ => ?_) (fun c_3 => absurd c_3 (by decide))
  refine z_iload_n g dL_does_20 rfl ?_
  refine z_bipush (v := 19) g dL_does_21 (by decide) ?_
  refine z_icmp_ge (tgt := 40) g dL_does_23 (by decide) (fun _ => ?_) (fun c_23 => absurd c_23 (by decide))
  refine z_iload_n g dL_does_40 rfl ?_
  refine z_bipush (v := 19) g dL_does_41 (by decide) ?_
  refine z_icmp_ne (tgt := 58) g dL_does_43 (by decide) (fun _ => ?_) (fun c_43 => absurd c_43 (by decide))
  refine z_iload_n g dL_does_58 rfl ?_
  refine z_bipush (v := 20) g dL_does_59 (by decide) ?_
  refine z_icmp_ne (tgt := 74) g dL_does_61 (by decide) (fun _ => ?_) (fun c_61 => absurd c_61 (by decide))
  refine z_iload_n g dL_does_74 rfl ?_
  refine z_bipush (v := 21) g dL_does_75 (by decide) ?_
  refine z_icmp_ne (tgt := 90) g dL_does_77 (by decide) (fun _ => ?_) (fun c_77 => absurd c_77 (by decide))
  refine z_iload_n g dL_does_90 rfl ?_
  refine z_bipush (v := 22) g dL_does_91 (by decide) ?_
  refine z_icmp_ne (tgt := 105) g dL_does_93 (by decide) (fun _ => ?_) (fun c_93 => absurd c_93 (by decide))
  refine z_iload_n g dL_does_105 rfl ?_
  refine z_bipush (v := 23) g dL_does_106 (by decide) ?_
  refine z_icmp_ne (tgt := 129) g dL_does_108 (by decide) (fun _ => ?_) (fun c_108 => absurd c_108 (by decide))
  refine z_iload_n g dL_does_129 rfl ?_
  refine z_bipush (v := 24) g dL_does_130 (by decide) ?_
  refine z_icmp_ne (tgt := 145) g dL_does_132 (by decide) (fun _ => ?_) (fun c_132 => absurd c_132 (by decide))
  refine z_iload_n g dL_does_145 rfl ?_
  refine z_bipush (v := 25) g dL_does_146 (by decide) ?_
  refine z_icmp_ne (tgt := 171) g dL_does_148 (by decide) (fun _ => ?_) (fun c_148 => absurd c_148 (by decide))
  refine z_iload_n g dL_does_171 rfl ?_
  refine z_bipush (v := 26) g dL_does_172 (by decide) ?_
  refine z_icmp_ne (tgt := 186) g dL_does_174 (by decide) (fun _ => ?_) (fun c_174 => absurd c_174 (by decide))
  refine z_iload_n g dL_does_186 rfl ?_
  refine z_bipush (v := 27) g dL_does_187 (by decide) ?_
  refine z_icmp_ne (tgt := 203) g dL_does_189 (by decide) (fun _ => ?_) (fun c_189 => absurd c_189 (by decide))
  refine z_iload_n g dL_does_203 rfl ?_
  refine z_bipush (v := 28) g dL_does_204 (by decide) ?_
  refine z_icmp_ne (tgt := 218) g dL_does_206 (by decide) (fun c_206 => absurd c_206 (by decide)) (fun _ => ?_)
  refine z_aload_n g dL_does_209 rfl ?_
  refine z_iload_n g dL_does_210 rfl ?_
  refine z_callV g _ _ cv_L_53 (k_order _ M hX hV a) k11 (by decide) rfl (by rw [hR]; decide) (by rw [hR]; decide) (by rw [hR]; decide) (Nat.le_of_ble_eq_true rfl) rfl dL_does_211 (fun E9 M9 h9 => ?_) (fun r_9 M1 h_9 => ?_)
  · obtain ⟨rfl, h9⟩ := h9
    rcases h9 with ⟨e0, rfl⟩ | ⟨e1, rfl⟩
    · refine zx_catch g hhh (tableOf []) ⟨0, 253, 254, 66⟩ (tableOf [(0, 253, 260, 70), (0, 253, 266, 72)]) rfl (fun z hz => nomatch hz) (by decide) (show (66 : Nat) ≠ 0 by decide) hl_IOE hc_IOE (fun qq => ?_)
      refine z_astore g dL_does_254 (by rw [hN]; decide) ?_
      refine z_ldc2 g dL_does_256 kc_L_68 ?_
      exact z_lret g hrt (by decide) (by decide) dL_does_259 (dp_x hX (fun h => by rw [e0] at h; exact absurd h (by decide)))
    · refine zx_catch g hhh (tableOf [(0, 253, 254, 66), (0, 253, 260, 70)]) ⟨0, 253, 266, 72⟩ (tableOf []) rfl (fun z hz => by
        simp only [tableOf, List.map, List.mem_cons, List.not_mem_nil, or_false] at hz
        rcases hz with rfl | rfl
        · exact Or.inr ⟨(by decide : (66 : Nat) ≠ 0), IOE, hl_IOE, nc_ISE_IOE⟩
        · exact Or.inr ⟨(by decide : (70 : Nat) ≠ 0), IAE, hl_IAE, nc_ISE_IAE⟩) (by decide) (show (72 : Nat) ≠ 0 by decide) hl_ISE hc_ISE (fun qq => ?_)
      refine z_astore g dL_does_266 (by rw [hN]; decide) ?_
      refine z_ldc2 g dL_does_268 kc_L_68 ?_
      exact z_lret g hrt (by decide) (by decide) dL_does_271 (dp_x hX (fun h => by rw [e1] at h; exact absurd h (by decide)))
  obtain ⟨hc0, rfl, g1, B2, hX2⟩ := h_9
  refine z_i2l g dL_does_214 ?_
  refine z_goto (tgt := 253) g dL_does_215 (by decide) ?_
  exact z_lret g hrt (by decide) (by decide) dL_does_253 (dp_0 hc0 g1 hX2)
set_option maxHeartbeats 4000000 in
set_option maxRecDepth 100000 in
theorem e_budget (E : Ev) {B : Nat → Nat → Nat} {x : Nat} {S : Ms} (M : Mm) (hX : RX B x S M) (hV : INV S) (a b c : Int32) (w : Int64) : CTH E yL_does cL_does 8 (some .long) [(0, 253, 254, 66), (0, 253, 260, 70), (0, 253, 266, 72)] 12 16 500 [.ref x, .int 29, .int a, .int b, .int c, .long w] M (DP x M (g_budget a b c w S)) noX := by
  refine CTH.of rfl (Nat.le_of_ble_eq_true rfl) (fun X g hrt hhh hE hN hR => ?_)
  subst hE
  have k11 : kd M x % 1000 = 11 := by rw [hX.1.1]
  refine z_iload_n g dL_does_0 rfl ?_
  refine z_bipush (v := 8) g dL_does_1 (by decide) ?_
  refine z_icmp_ge (tgt := 20) g dL_does_3 (by decide) (fun _ => ?_) (fun c_3 => absurd c_3 (by decide))
  refine z_iload_n g dL_does_20 rfl ?_
  refine z_bipush (v := 19) g dL_does_21 (by decide) ?_
  refine z_icmp_ge (tgt := 40) g dL_does_23 (by decide) (fun _ => ?_) (fun c_23 => absurd c_23 (by decide))
  refine z_iload_n g dL_does_40 rfl ?_
  refine z_bipush (v := 19) g dL_does_41 (by decide) ?_
  refine z_icmp_ne (tgt := 58) g dL_does_43 (by decide) (fun _ => ?_) (fun c_43 => absurd c_43 (by decide))
  refine z_iload_n g dL_does_58 rfl ?_
  refine z_bipush (v := 20) g dL_does_59 (by decide) ?_
  refine z_icmp_ne (tgt := 74) g dL_does_61 (by decide) (fun _ => ?_) (fun c_61 => absurd c_61 (by decide))
  refine z_iload_n g dL_does_74 rfl ?_
  refine z_bipush (v := 21) g dL_does_75 (by decide) ?_
  refine z_icmp_ne (tgt := 90) g dL_does_77 (by decide) (fun _ => ?_) (fun c_77 => absurd c_77 (by decide))
  refine z_iload_n g dL_does_90 rfl ?_
  refine z_bipush (v := 22) g dL_does_91 (by decide) ?_
  refine z_icmp_ne (tgt := 105) g dL_does_93 (by decide) (fun _ => ?_) (fun c_93 => absurd c_93 (by decide))
  refine z_iload_n g dL_does_105 rfl ?_
  refine z_bipush (v := 23) g dL_does_106 (by decide) ?_
  refine z_icmp_ne (tgt := 129) g dL_does_108 (by decide) (fun _ => ?_) (fun c_108 => absurd c_108 (by decide))
  refine z_iload_n g dL_does_129 rfl ?_
  refine z_bipush (v := 24) g dL_does_130 (by decide) ?_
  refine z_icmp_ne (tgt := 145) g dL_does_132 (by decide) (fun _ => ?_) (fun c_132 => absurd c_132 (by decide))
  refine z_iload_n g dL_does_145 rfl ?_
  refine z_bipush (v := 25) g dL_does_146 (by decide) ?_
  refine z_icmp_ne (tgt := 171) g dL_does_148 (by decide) (fun _ => ?_) (fun c_148 => absurd c_148 (by decide))
  refine z_iload_n g dL_does_171 rfl ?_
  refine z_bipush (v := 26) g dL_does_172 (by decide) ?_
  refine z_icmp_ne (tgt := 186) g dL_does_174 (by decide) (fun _ => ?_) (fun c_174 => absurd c_174 (by decide))
  refine z_iload_n g dL_does_186 rfl ?_
  refine z_bipush (v := 27) g dL_does_187 (by decide) ?_
  refine z_icmp_ne (tgt := 203) g dL_does_189 (by decide) (fun _ => ?_) (fun c_189 => absurd c_189 (by decide))
  refine z_iload_n g dL_does_203 rfl ?_
  refine z_bipush (v := 28) g dL_does_204 (by decide) ?_
  refine z_icmp_ne (tgt := 218) g dL_does_206 (by decide) (fun _ => ?_) (fun c_206 => absurd c_206 (by decide))
  refine z_iload_n g dL_does_218 rfl ?_
  refine z_bipush (v := 29) g dL_does_219 (by decide) ?_
  refine z_icmp_ne (tgt := 233) g dL_does_221 (by decide) (fun c_221 => absurd c_221 (by decide)) (fun _ => ?_)
  refine z_aload_n g dL_does_224 rfl ?_
  refine z_iload_n g dL_does_225 rfl ?_
  refine z_callV g _ _ cv_L_56 (k_budget _ M hX hV a) k11 (by decide) rfl (by rw [hR]; decide) (by rw [hR]; decide) (by rw [hR]; decide) (Nat.le_of_ble_eq_true rfl) rfl dL_does_226 (fun E9 M9 h9 => ?_) (fun r_9 M1 h_9 => ?_)
  · obtain ⟨rfl, h9⟩ := h9
    obtain ⟨e0, rfl⟩ := h9
    · refine zx_catch g hhh (tableOf [(0, 253, 254, 66)]) ⟨0, 253, 260, 70⟩ (tableOf [(0, 253, 266, 72)]) rfl (fun z hz => by
        simp only [tableOf, List.map, List.mem_cons, List.not_mem_nil, or_false] at hz
        subst hz
        · exact Or.inr ⟨(by decide : (66 : Nat) ≠ 0), IOE, hl_IOE, nc_IAE_IOE⟩) (by decide) (show (70 : Nat) ≠ 0 by decide) hl_IAE hc_IAE (fun qq => ?_)
      refine z_astore g dL_does_260 (by rw [hN]; decide) ?_
      refine z_ldc2 g dL_does_262 kc_L_68 ?_
      exact z_lret g hrt (by decide) (by decide) dL_does_265 (dp_x hX (fun h => by rw [e0] at h; exact absurd h (by decide)))
  obtain ⟨hc0, rfl, g1, B2, hX2⟩ := h_9
  refine z_i2l g dL_does_229 ?_
  refine z_goto (tgt := 253) g dL_does_230 (by decide) ?_
  exact z_lret g hrt (by decide) (by decide) dL_does_253 (dp_0 hc0 g1 hX2)
set_option maxHeartbeats 4000000 in
set_option maxRecDepth 100000 in
theorem e_sign (E : Ev) {B : Nat → Nat → Nat} {x : Nat} {S : Ms} (M : Mm) (hX : RX B x S M) (hV : INV S) (a b c : Int32) (w : Int64) : CTH E yL_does cL_does 8 (some .long) [(0, 253, 254, 66), (0, 253, 260, 70), (0, 253, 266, 72)] 12 16 500 [.ref x, .int 30, .int a, .int b, .int c, .long w] M (DP x M (g_sign a b c w S)) noX := by
  refine CTH.of rfl (Nat.le_of_ble_eq_true rfl) (fun X g hrt hhh hE hN hR => ?_)
  subst hE
  have k11 : kd M x % 1000 = 11 := by rw [hX.1.1]
  refine z_iload_n g dL_does_0 rfl ?_
  refine z_bipush (v := 8) g dL_does_1 (by decide) ?_
  refine z_icmp_ge (tgt := 20) g dL_does_3 (by decide) (fun _ => ?_) (fun c_3 => absurd c_3 (by decide))
  refine z_iload_n g dL_does_20 rfl ?_
  refine z_bipush (v := 19) g dL_does_21 (by decide) ?_
  refine z_icmp_ge (tgt := 40) g dL_does_23 (by decide) (fun _ => ?_) (fun c_23 => absurd c_23 (by decide))
  refine z_iload_n g dL_does_40 rfl ?_
  refine z_bipush (v := 19) g dL_does_41 (by decide) ?_
  refine z_icmp_ne (tgt := 58) g dL_does_43 (by decide) (fun _ => ?_) (fun c_43 => absurd c_43 (by decide))
  refine z_iload_n g dL_does_58 rfl ?_
  refine z_bipush (v := 20) g dL_does_59 (by decide) ?_
  refine z_icmp_ne (tgt := 74) g dL_does_61 (by decide) (fun _ => ?_) (fun c_61 => absurd c_61 (by decide))
  refine z_iload_n g dL_does_74 rfl ?_
  refine z_bipush (v := 21) g dL_does_75 (by decide) ?_
  refine z_icmp_ne (tgt := 90) g dL_does_77 (by decide) (fun _ => ?_) (fun c_77 => absurd c_77 (by decide))
  refine z_iload_n g dL_does_90 rfl ?_
  refine z_bipush (v := 22) g dL_does_91 (by decide) ?_
  refine z_icmp_ne (tgt := 105) g dL_does_93 (by decide) (fun _ => ?_) (fun c_93 => absurd c_93 (by decide))
  refine z_iload_n g dL_does_105 rfl ?_
  refine z_bipush (v := 23) g dL_does_106 (by decide) ?_
  refine z_icmp_ne (tgt := 129) g dL_does_108 (by decide) (fun _ => ?_) (fun c_108 => absurd c_108 (by decide))
  refine z_iload_n g dL_does_129 rfl ?_
  refine z_bipush (v := 24) g dL_does_130 (by decide) ?_
  refine z_icmp_ne (tgt := 145) g dL_does_132 (by decide) (fun _ => ?_) (fun c_132 => absurd c_132 (by decide))
  refine z_iload_n g dL_does_145 rfl ?_
  refine z_bipush (v := 25) g dL_does_146 (by decide) ?_
  refine z_icmp_ne (tgt := 171) g dL_does_148 (by decide) (fun _ => ?_) (fun c_148 => absurd c_148 (by decide))
  refine z_iload_n g dL_does_171 rfl ?_
  refine z_bipush (v := 26) g dL_does_172 (by decide) ?_
  refine z_icmp_ne (tgt := 186) g dL_does_174 (by decide) (fun _ => ?_) (fun c_174 => absurd c_174 (by decide))
  refine z_iload_n g dL_does_186 rfl ?_
  refine z_bipush (v := 27) g dL_does_187 (by decide) ?_
  refine z_icmp_ne (tgt := 203) g dL_does_189 (by decide) (fun _ => ?_) (fun c_189 => absurd c_189 (by decide))
  refine z_iload_n g dL_does_203 rfl ?_
  refine z_bipush (v := 28) g dL_does_204 (by decide) ?_
  refine z_icmp_ne (tgt := 218) g dL_does_206 (by decide) (fun _ => ?_) (fun c_206 => absurd c_206 (by decide))
  refine z_iload_n g dL_does_218 rfl ?_
  refine z_bipush (v := 29) g dL_does_219 (by decide) ?_
  refine z_icmp_ne (tgt := 233) g dL_does_221 (by decide) (fun _ => ?_) (fun c_221 => absurd c_221 (by decide))
  refine z_iload_n g dL_does_233 rfl ?_
  refine z_bipush (v := 30) g dL_does_234 (by decide) ?_
  refine z_icmp_ne (tgt := 247) g dL_does_236 (by decide) (fun c_236 => absurd c_236 (by decide)) (fun _ => ?_)
  refine z_aload_n g dL_does_239 rfl ?_
  refine z_iload_n g dL_does_240 rfl ?_
  refine z_callV g _ _ cv_L_59 (k_sign _ M hX hV a) k11 (by decide) rfl (by rw [hR]; decide) (by rw [hR]; decide) (by rw [hR]; decide) (Nat.le_of_ble_eq_true rfl) rfl dL_does_241 (fun E9 M9 h9 => ?_) (fun r_9 M1 h_9 => ?_)
  · obtain ⟨rfl, h9⟩ := h9
    obtain ⟨e0, rfl⟩ := h9
    · refine zx_catch g hhh (tableOf []) ⟨0, 253, 254, 66⟩ (tableOf [(0, 253, 260, 70), (0, 253, 266, 72)]) rfl (fun z hz => nomatch hz) (by decide) (show (66 : Nat) ≠ 0 by decide) hl_IOE hc_IOE (fun qq => ?_)
      refine z_astore g dL_does_254 (by rw [hN]; decide) ?_
      refine z_ldc2 g dL_does_256 kc_L_68 ?_
      exact z_lret g hrt (by decide) (by decide) dL_does_259 (dp_x hX (fun h => by rw [e0] at h; exact absurd h (by decide)))
  obtain ⟨hc0, rfl, g1, B2, hX2⟩ := h_9
  refine z_goto (tgt := 253) g dL_does_244 (by decide) ?_
  exact z_lret g hrt (by decide) (by decide) dL_does_253 (dp_0 hc0 g1 hX2)
