/-! ===== the law's does: a call's answer and the state behind it (printed by gen/mk_does.py) ===== -/
/-- a call's answer and the state behind it; what throws leaves the state as it was -/
def rz (c : Int32) (v : Int64) (S s : Ms) : Int64 × Ms := if c = 0 then (v, s) else (-9999999, S)
def DP (x : Nat) (M : Mm) (q : Int64 × Ms) : Option Value → Mm → Prop := fun r M' => r = some (.long q.1) ∧ agr TC M M' ∧ ∃ B', RX B' x q.2 M'
theorem dp_x {B : Nat → Nat → Nat} {x : Nat} {S s : Ms} {M : Mm} {c : Int32} {v : Int64} (hX : RX B x S M) (hc : c ≠ 0) : DP x M (rz c v S s) (some (.long (-9999999))) M := by
  unfold rz; rw [if_neg hc]; exact ⟨rfl, agr.rf, B, hX⟩
theorem dp_0 {B : Nat → Nat → Nat} {x : Nat} {S s : Ms} {M M' : Mm} {c : Int32} {v : Int64} (hc : c = 0) (g : agr TC M M') (hX : RX B x s M') : DP x M (rz c v S s) (some (.long v)) M' := by
  unfold rz; rw [if_pos hc]; exact ⟨rfl, g, B, hX⟩
/-- what lands and councils owe -/
def LQ (x : Nat) (M : Mm) (c : Int32) (v : Int64) (s : Ms) : Option Value → Mm → Prop := fun r M' => c = 0 ∧ r = some (.long v) ∧ agr TC M M' ∧ ∃ B', RX B' x s M'

def g_feature (a b c : Int32) (w : Int64) (S : Ms) : Int64 × Ms := rz (cFeature S a b c) ((vFeature S a b c).toInt64) S (sFeature S a b c)
def g_move (a b c : Int32) (w : Int64) (S : Ms) : Int64 × Ms := rz (cMove S a (b / 100) (b - b / 100 * 100) c) (0) S (sMove S a (b / 100) (b - b / 100 * 100) c)
def g_part (a b c : Int32) (w : Int64) (S : Ms) : Int64 × Ms := rz (cPart S a b c) (0) S (sPart S a b c)
def g_end (a b c : Int32) (w : Int64) (S : Ms) : Int64 × Ms := rz (cEnd S a b c) (0) S (sEnd S a b c)
def g_of (a b c : Int32) (w : Int64) (S : Ms) : Int64 × Ms := rz (cOf S a b (c / 10000) (c - c / 10000 * 10000)) ((vOf S a b (c / 10000) (c - c / 10000 * 10000)).toInt64) S S
def g_name (a b c : Int32) (w : Int64) (S : Ms) : Int64 × Ms := rz (cName S a b w c) ((vName S a b w c).toInt64) S (sName S a b w c)
def g_law (a b c : Int32) (w : Int64) (S : Ms) : Int64 × Ms := rz (cLawc S a b (c - c / 100 * 100) (c / 100 - c / 100 / 100 * 100) (c / 10000)) ((vLawc S a b (c - c / 100 * 100) (c / 100 - c / 100 / 100 * 100) (c / 10000)).toInt64) S (sLawc S a b (c - c / 100 * 100) (c / 100 - c / 100 / 100 * 100) (c / 10000))
def g_except (a b c : Int32) (w : Int64) (S : Ms) : Int64 × Ms := rz (cExcept S a b c) (0) S (sExcept S a b c)
def g_form (a b c : Int32) (w : Int64) (S : Ms) : Int64 × Ms := rz (cForm S a b (c / 10000) (c - c / 10000 * 10000)) (vForm S a b (c / 10000) (c - c / 10000 * 10000)) S S
def g_petition (a b c : Int32) (w : Int64) (S : Ms) : Int64 × Ms := rz (cPetition S a b w c) ((vPetition S a b w c).toInt64) S (sPetition S a b w c)
def g_vote (a b c : Int32) (w : Int64) (S : Ms) : Int64 × Ms := rz (cVote S a b (if c = 1 then 1 else 0)) ((vVote S a b (if c = 1 then 1 else 0)).toInt64) S (sVote S a b (if c = 1 then 1 else 0))
def g_protest (a b c : Int32) (w : Int64) (S : Ms) : Int64 × Ms := rz (cProtest S a b) ((if vProtest S a b = true then 1 else 0)) S (sProtest S a b)
def g_decide (a b c : Int32) (w : Int64) (S : Ms) : Int64 × Ms := rz (cDecide S a) ((vDecide S a).toInt64) S (sDecide S a)
def g_appeal (a b c : Int32) (w : Int64) (S : Ms) : Int64 × Ms := rz (cAppeal S a) ((vAppeal S a).toInt64) S (sAppeal S a)
def g_petOf (a b c : Int32) (w : Int64) (S : Ms) : Int64 × Ms := rz (cPetOf S a b) ((vPetOf S a b).toInt64) S S
def g_census (a b c : Int32) (w : Int64) (S : Ms) : Int64 × Ms := rz (cCensus S a b c) ((vCensus S a b c).toInt64) S (sCensus S a b c)
def g_dispute (a b c : Int32) (w : Int64) (S : Ms) : Int64 × Ms := rz (cDispute S a b c) (0) S (sDispute S a b c)
def g_shown (a b c : Int32) (w : Int64) (S : Ms) : Int64 × Ms := rz (cShown S a b) ((vShown S a b).toInt64) S S
def g_display (a b c : Int32) (w : Int64) (S : Ms) : Int64 × Ms := rz (cDisplay S a b) (vDisplay S a b) S S
def g_table (a b c : Int32) (w : Int64) (S : Ms) : Int64 × Ms := rz (cTable S a b c) ((vTable S a b c).toInt64) S (sTable S a b c)
def g_write (a b c : Int32) (w : Int64) (S : Ms) : Int64 × Ms := rz (cWrite S w a) (vWrite S w a) S S
def g_back (a b c : Int32) (w : Int64) (S : Ms) : Int64 × Ms := rz (cWrite S w a) (vBack S w a) S S
def g_loss (a b c : Int32) (w : Int64) (S : Ms) : Int64 × Ms := rz (cLoss S a) ((vLoss S a).toInt64) S S
def g_reading (a b c : Int32) (w : Int64) (S : Ms) : Int64 × Ms := rz (cReading S w (b / 100) (b - b / 100 * 100)) ((vReading S w (b / 100) (b - b / 100 * 100)).toInt64) S (sReading S w (b / 100) (b - b / 100 * 100))
def g_cost (a b c : Int32) (w : Int64) (S : Ms) : Int64 × Ms := rz (cCost S a b) ((vCost S a b).toInt64) S S
def g_find (a b c : Int32) (w : Int64) (S : Ms) : Int64 × Ms := rz (cFind S w (b / 100) (b - b / 100 * 100) c) ((vFind S w (b / 100) (b - b / 100 * 100) c).toInt64) S S
def g_pull (a b c : Int32) (w : Int64) (S : Ms) : Int64 × Ms := rz (cPull S a) ((vPull S a).toInt64) S (sPull S a)
def g_copy (a b c : Int32) (w : Int64) (S : Ms) : Int64 × Ms := rz (cCopy S a b c) (vCopy S a b c) S S
def g_order (a b c : Int32) (w : Int64) (S : Ms) : Int64 × Ms := rz (cOrder S a) ((vOrder S a).toInt64) S (sOrder S a)
def g_budget (a b c : Int32) (w : Int64) (S : Ms) : Int64 × Ms := rz (cBudget S a) ((vBudget S a).toInt64) S (sBudget S a)
def g_sign (a b c : Int32) (w : Int64) (S : Ms) : Int64 × Ms := rz (cSign S a) (vSign S a) S S
set_option maxHeartbeats 4000000 in
set_option maxRecDepth 100000 in
theorem l_feature (E : Ev) {B : Nat → Nat → Nat} {x : Nat} {S : Ms} (M : Mm) (hX : RX B x S M) (hV : INV S) (a b c : Int32) (w : Int64) : CT E yL_lands cL_lands 7 (some .long) 11 16 500 [.ref x, .int 0, .int a, .int b, .int c, .long w] M (LQ x M (cFeature S a b c) ((vFeature S a b c).toInt64) (sFeature S a b c)) (fun E9 M' => M = M' ∧ ((cFeature S a b c = 1 ∧ E9 = IAE) ∨ (cFeature S a b c = 2 ∧ E9 = ISE))) := by
  refine CT.of rfl (Nat.le_of_ble_eq_true rfl) (fun X g hrt hno hE hN hR hI => ?_)
  subst hE
  have k11 : kd M x % 1000 = 11 := by rw [hX.1.1]
  refine z_iload_n g dL_lands_0 rfl ?_
  refine z_iconst (v := 1) g dL_lands_1 (by decide) ?_
  refine z_icmp_ne (tgt := 23) g dL_lands_2 (by decide) (fun _ => ?_) (fun c_2 => absurd c_2 (by decide))
  refine z_iload_n g dL_lands_23 rfl ?_
  refine z_iconst (v := 2) g dL_lands_24 (by decide) ?_
  refine z_icmp_ne (tgt := 39) g dL_lands_25 (by decide) (fun _ => ?_) (fun c_25 => absurd c_25 (by decide))
  refine z_iload_n g dL_lands_39 rfl ?_
  refine z_iconst (v := 3) g dL_lands_40 (by decide) ?_
  refine z_icmp_ne (tgt := 55) g dL_lands_41 (by decide) (fun _ => ?_) (fun c_41 => absurd c_41 (by decide))
  refine z_iload_n g dL_lands_55 rfl ?_
  refine z_bipush (v := 7) g dL_lands_56 (by decide) ?_
  refine z_icmp_ne (tgt := 72) g dL_lands_58 (by decide) (fun _ => ?_) (fun c_58 => absurd c_58 (by decide))
  refine z_iload_n g dL_lands_72 rfl ?_
  refine z_if_ne (tgt := 88) g dL_lands_73 (by decide) (fun c_73 => absurd c_73 (by decide)) (fun _ => ?_)
  refine z_aload_n g dL_lands_76 rfl ?_
  refine z_iload_n g dL_lands_77 rfl ?_
  refine z_iload_n g dL_lands_78 rfl ?_
  refine z_iload g dL_lands_79 rfl ?_
  refine z_callV g _ _ cv_L_88 (k_feature _ M hX hV a b c) k11 (by decide) rfl (by rw [hR]; decide) (by rw [hR]; decide) (by rw [hR]; decide) (Nat.le_of_ble_eq_true rfl) rfl dL_lands_81 (fun E9 M9 h9 => zx_out g hrt hno (by decide) (by decide) h9) (fun r_9 M1 h_9 => ?_)
  obtain ⟨hc0, rfl, g1, B2, hX2⟩ := h_9
  refine z_i2l g dL_lands_84 ?_
  refine z_goto (tgt := 160) g dL_lands_85 (by decide) ?_
  exact z_lret g hrt (by decide) (by decide) dL_lands_160 ⟨hc0, rfl, g1, B2, hX2⟩
set_option maxHeartbeats 4000000 in
set_option maxRecDepth 100000 in
theorem l_move (E : Ev) {B : Nat → Nat → Nat} {x : Nat} {S : Ms} (M : Mm) (hX : RX B x S M) (hV : INV S) (a b c : Int32) (w : Int64) : CT E yL_lands cL_lands 7 (some .long) 11 16 500 [.ref x, .int 1, .int a, .int b, .int c, .long w] M (LQ x M (cMove S a (b / 100) (b - b / 100 * 100) c) (0) (sMove S a (b / 100) (b - b / 100 * 100) c)) (fun E9 M' => M = M' ∧ ((cMove S a (b / 100) (b - b / 100 * 100) c = 1 ∧ E9 = IOE) ∨ (cMove S a (b / 100) (b - b / 100 * 100) c = 2 ∧ E9 = IAE) ∨ (cMove S a (b / 100) (b - b / 100 * 100) c = 3 ∧ E9 = ISE))) := by
  refine CT.of rfl (Nat.le_of_ble_eq_true rfl) (fun X g hrt hno hE hN hR hI => ?_)
  subst hE
  have k11 : kd M x % 1000 = 11 := by rw [hX.1.1]
  refine z_iload_n g dL_lands_0 rfl ?_
  refine z_iconst (v := 1) g dL_lands_1 (by decide) ?_
  refine z_icmp_ne (tgt := 23) g dL_lands_2 (by decide) (fun c_2 => absurd c_2 (by decide)) (fun _ => ?_)
  refine z_aload_n g dL_lands_5 rfl ?_
  refine z_iload_n g dL_lands_6 rfl ?_
  refine z_iload_n g dL_lands_7 rfl ?_
  refine z_bipush (v := 100) g dL_lands_8 (by decide) ?_
  refine z_idiv g dL_lands_10 (by decide) ?_
  refine z_iload_n g dL_lands_11 rfl ?_
  refine z_bipush (v := 100) g dL_lands_12 (by decide) ?_
  refine z_irem g dL_lands_14 (by decide) ?_
  refine z_iload g dL_lands_15 rfl ?_
  refine z_callV g _ _ cv_L_74 (k_move _ M hX hV a (b / 100) (b - b / 100 * 100) c) k11 (by decide) rfl (by rw [hR]; decide) (by rw [hR]; decide) (by rw [hR]; decide) (Nat.le_of_ble_eq_true rfl) rfl dL_lands_17 (fun E9 M9 h9 => zx_out g hrt hno (by decide) (by decide) h9) (fun r_9 M1 h_9 => ?_)
  obtain ⟨hc0, rfl, g1, B2, hX2⟩ := h_9
  refine z_goto (tgt := 161) g dL_lands_20 (by decide) ?_
  refine z_lconst (v := 0) g dL_lands_161 (by decide) ?_
  exact z_lret g hrt (by decide) (by decide) dL_lands_162 ⟨hc0, rfl, g1, B2, hX2⟩
set_option maxHeartbeats 4000000 in
set_option maxRecDepth 100000 in
theorem l_part (E : Ev) {B : Nat → Nat → Nat} {x : Nat} {S : Ms} (M : Mm) (hX : RX B x S M) (hV : INV S) (a b c : Int32) (w : Int64) : CT E yL_lands cL_lands 7 (some .long) 11 16 500 [.ref x, .int 2, .int a, .int b, .int c, .long w] M (LQ x M (cPart S a b c) (0) (sPart S a b c)) (fun E9 M' => M = M' ∧ ((cPart S a b c = 1 ∧ E9 = IOE) ∨ (cPart S a b c = 2 ∧ E9 = IAE) ∨ (cPart S a b c = 3 ∧ E9 = ISE))) := by
  refine CT.of rfl (Nat.le_of_ble_eq_true rfl) (fun X g hrt hno hE hN hR hI => ?_)
  subst hE
  have k11 : kd M x % 1000 = 11 := by rw [hX.1.1]
  refine z_iload_n g dL_lands_0 rfl ?_
  refine z_iconst (v := 1) g dL_lands_1 (by decide) ?_
  refine z_icmp_ne (tgt := 23) g dL_lands_2 (by decide) (fun _ => ?_) (fun c_2 => absurd c_2 (by decide))
  refine z_iload_n g dL_lands_23 rfl ?_
  refine z_iconst (v := 2) g dL_lands_24 (by decide) ?_
  refine z_icmp_ne (tgt := 39) g dL_lands_25 (by decide) (fun c_25 => absurd c_25 (by decide)) (fun _ => ?_)
  refine z_aload_n g dL_lands_28 rfl ?_
  refine z_iload_n g dL_lands_29 rfl ?_
  refine z_iload_n g dL_lands_30 rfl ?_
  refine z_iload g dL_lands_31 rfl ?_
  refine z_callV g _ _ cv_L_78 (k_part _ M hX hV a b c) k11 (by decide) rfl (by rw [hR]; decide) (by rw [hR]; decide) (by rw [hR]; decide) (Nat.le_of_ble_eq_true rfl) rfl dL_lands_33 (fun E9 M9 h9 => zx_out g hrt hno (by decide) (by decide) h9) (fun r_9 M1 h_9 => ?_)
  obtain ⟨hc0, rfl, g1, B2, hX2⟩ := h_9
  refine z_goto (tgt := 161) g dL_lands_36 (by decide) ?_
  refine z_lconst (v := 0) g dL_lands_161 (by decide) ?_
  exact z_lret g hrt (by decide) (by decide) dL_lands_162 ⟨hc0, rfl, g1, B2, hX2⟩
set_option maxHeartbeats 4000000 in
set_option maxRecDepth 100000 in
theorem l_end (E : Ev) {B : Nat → Nat → Nat} {x : Nat} {S : Ms} (M : Mm) (hX : RX B x S M) (hV : INV S) (a b c : Int32) (w : Int64) : CT E yL_lands cL_lands 7 (some .long) 11 16 500 [.ref x, .int 3, .int a, .int b, .int c, .long w] M (LQ x M (cEnd S a b c) (0) (sEnd S a b c)) (fun E9 M' => M = M' ∧ ((cEnd S a b c = 1 ∧ E9 = IOE) ∨ (cEnd S a b c = 2 ∧ E9 = IAE) ∨ (cEnd S a b c = 3 ∧ E9 = ISE))) := by
  refine CT.of rfl (Nat.le_of_ble_eq_true rfl) (fun X g hrt hno hE hN hR hI => ?_)
  subst hE
  have k11 : kd M x % 1000 = 11 := by rw [hX.1.1]
  refine z_iload_n g dL_lands_0 rfl ?_
  refine z_iconst (v := 1) g dL_lands_1 (by decide) ?_
  refine z_icmp_ne (tgt := 23) g dL_lands_2 (by decide) (fun _ => ?_) (fun c_2 => absurd c_2 (by decide))
  refine z_iload_n g dL_lands_23 rfl ?_
  refine z_iconst (v := 2) g dL_lands_24 (by decide) ?_
  refine z_icmp_ne (tgt := 39) g dL_lands_25 (by decide) (fun _ => ?_) (fun c_25 => absurd c_25 (by decide))
  refine z_iload_n g dL_lands_39 rfl ?_
  refine z_iconst (v := 3) g dL_lands_40 (by decide) ?_
  refine z_icmp_ne (tgt := 55) g dL_lands_41 (by decide) (fun c_41 => absurd c_41 (by decide)) (fun _ => ?_)
  refine z_aload_n g dL_lands_44 rfl ?_
  refine z_iload_n g dL_lands_45 rfl ?_
  refine z_iload_n g dL_lands_46 rfl ?_
  refine z_iload g dL_lands_47 rfl ?_
  refine z_callV g _ _ cv_L_82 (k_end _ M hX hV a b c) k11 (by decide) rfl (by rw [hR]; decide) (by rw [hR]; decide) (by rw [hR]; decide) (Nat.le_of_ble_eq_true rfl) rfl dL_lands_49 (fun E9 M9 h9 => zx_out g hrt hno (by decide) (by decide) h9) (fun r_9 M1 h_9 => ?_)
  obtain ⟨hc0, rfl, g1, B2, hX2⟩ := h_9
  refine z_goto (tgt := 161) g dL_lands_52 (by decide) ?_
  refine z_lconst (v := 0) g dL_lands_161 (by decide) ?_
  exact z_lret g hrt (by decide) (by decide) dL_lands_162 ⟨hc0, rfl, g1, B2, hX2⟩
set_option maxHeartbeats 4000000 in
set_option maxRecDepth 100000 in
theorem l_of (E : Ev) {B : Nat → Nat → Nat} {x : Nat} {S : Ms} (M : Mm) (hX : RX B x S M) (hV : INV S) (a b c : Int32) (w : Int64) : CT E yL_lands cL_lands 7 (some .long) 11 16 500 [.ref x, .int 4, .int a, .int b, .int c, .long w] M (LQ x M (cOf S a b (c / 10000) (c - c / 10000 * 10000)) ((vOf S a b (c / 10000) (c - c / 10000 * 10000)).toInt64) (sOf S a b (c / 10000) (c - c / 10000 * 10000))) (fun E9 M' => M = M' ∧ ((cOf S a b (c / 10000) (c - c / 10000 * 10000) = 1 ∧ E9 = IOE) ∨ (cOf S a b (c / 10000) (c - c / 10000 * 10000) = 2 ∧ E9 = IAE))) := by
  refine CT.of rfl (Nat.le_of_ble_eq_true rfl) (fun X g hrt hno hE hN hR hI => ?_)
  subst hE
  have k11 : kd M x % 1000 = 11 := by rw [hX.1.1]
  refine z_iload_n g dL_lands_0 rfl ?_
  refine z_iconst (v := 1) g dL_lands_1 (by decide) ?_
  refine z_icmp_ne (tgt := 23) g dL_lands_2 (by decide) (fun _ => ?_) (fun c_2 => absurd c_2 (by decide))
  refine z_iload_n g dL_lands_23 rfl ?_
  refine z_iconst (v := 2) g dL_lands_24 (by decide) ?_
  refine z_icmp_ne (tgt := 39) g dL_lands_25 (by decide) (fun _ => ?_) (fun c_25 => absurd c_25 (by decide))
  refine z_iload_n g dL_lands_39 rfl ?_
  refine z_iconst (v := 3) g dL_lands_40 (by decide) ?_
  refine z_icmp_ne (tgt := 55) g dL_lands_41 (by decide) (fun _ => ?_) (fun c_41 => absurd c_41 (by decide))
  refine z_iload_n g dL_lands_55 rfl ?_
  refine z_bipush (v := 7) g dL_lands_56 (by decide) ?_
  refine z_icmp_ne (tgt := 72) g dL_lands_58 (by decide) (fun _ => ?_) (fun c_58 => absurd c_58 (by decide))
  refine z_iload_n g dL_lands_72 rfl ?_
  refine z_if_ne (tgt := 88) g dL_lands_73 (by decide) (fun _ => ?_) (fun c_73 => absurd c_73 (by decide))
  refine z_iload_n g dL_lands_88 rfl ?_
  refine z_iconst (v := 4) g dL_lands_89 (by decide) ?_
  refine z_icmp_ne (tgt := 115) g dL_lands_90 (by decide) (fun c_90 => absurd c_90 (by decide)) (fun _ => ?_)
  refine z_aload_n g dL_lands_93 rfl ?_
  refine z_iload_n g dL_lands_94 rfl ?_
  refine z_iload_n g dL_lands_95 rfl ?_
  refine z_iload g dL_lands_96 rfl ?_
  refine z_sipush (v := 10000) g dL_lands_98 (by decide) ?_
  refine z_idiv g dL_lands_101 (by decide) ?_
  refine z_iload g dL_lands_102 rfl ?_
  refine z_sipush (v := 10000) g dL_lands_104 (by decide) ?_
  refine z_irem g dL_lands_107 (by decide) ?_
  refine z_callV g _ _ cv_L_91 (k_of _ M hX hV a b (c / 10000) (c - c / 10000 * 10000)) k11 (by decide) rfl (by rw [hR]; decide) (by rw [hR]; decide) (by rw [hR]; decide) (Nat.le_of_ble_eq_true rfl) rfl dL_lands_108 (fun E9 M9 h9 => zx_out g hrt hno (by decide) (by decide) h9) (fun r_9 M1 h_9 => ?_)
  obtain ⟨hc0, rfl, g1, B2, hX2⟩ := h_9
  refine z_i2l g dL_lands_111 ?_
  refine z_goto (tgt := 160) g dL_lands_112 (by decide) ?_
  exact z_lret g hrt (by decide) (by decide) dL_lands_160 ⟨hc0, rfl, g1, B2, hX2⟩
set_option maxHeartbeats 4000000 in
set_option maxRecDepth 100000 in
theorem l_name (E : Ev) {B : Nat → Nat → Nat} {x : Nat} {S : Ms} (M : Mm) (hX : RX B x S M) (hV : INV S) (a b c : Int32) (w : Int64) : CT E yL_lands cL_lands 7 (some .long) 11 16 500 [.ref x, .int 5, .int a, .int b, .int c, .long w] M (LQ x M (cName S a b w c) ((vName S a b w c).toInt64) (sName S a b w c)) (fun E9 M' => M = M' ∧ ((cName S a b w c = 1 ∧ E9 = IOE) ∨ (cName S a b w c = 2 ∧ E9 = IAE) ∨ (cName S a b w c = 3 ∧ E9 = ISE))) := by
  refine CT.of rfl (Nat.le_of_ble_eq_true rfl) (fun X g hrt hno hE hN hR hI => ?_)
  subst hE
  have k11 : kd M x % 1000 = 11 := by rw [hX.1.1]
  refine z_iload_n g dL_lands_0 rfl ?_
  refine z_iconst (v := 1) g dL_lands_1 (by decide) ?_
  refine z_icmp_ne (tgt := 23) g dL_lands_2 (by decide) (fun _ => ?_) (fun c_2 => absurd c_2 (by decide))
  refine z_iload_n g dL_lands_23 rfl ?_
  refine z_iconst (v := 2) g dL_lands_24 (by decide) ?_
  refine z_icmp_ne (tgt := 39) g dL_lands_25 (by decide) (fun _ => ?_) (fun c_25 => absurd c_25 (by decide))
  refine z_iload_n g dL_lands_39 rfl ?_
  refine z_iconst (v := 3) g dL_lands_40 (by decide) ?_
  refine z_icmp_ne (tgt := 55) g dL_lands_41 (by decide) (fun _ => ?_) (fun c_41 => absurd c_41 (by decide))
  refine z_iload_n g dL_lands_55 rfl ?_
  refine z_bipush (v := 7) g dL_lands_56 (by decide) ?_
  refine z_icmp_ne (tgt := 72) g dL_lands_58 (by decide) (fun _ => ?_) (fun c_58 => absurd c_58 (by decide))
  refine z_iload_n g dL_lands_72 rfl ?_
  refine z_if_ne (tgt := 88) g dL_lands_73 (by decide) (fun _ => ?_) (fun c_73 => absurd c_73 (by decide))
  refine z_iload_n g dL_lands_88 rfl ?_
  refine z_iconst (v := 4) g dL_lands_89 (by decide) ?_
  refine z_icmp_ne (tgt := 115) g dL_lands_90 (by decide) (fun _ => ?_) (fun c_90 => absurd c_90 (by decide))
  refine z_iload_n g dL_lands_115 rfl ?_
  refine z_iconst (v := 5) g dL_lands_116 (by decide) ?_
  refine z_icmp_ne (tgt := 134) g dL_lands_117 (by decide) (fun c_117 => absurd c_117 (by decide)) (fun _ => ?_)
  refine z_aload_n g dL_lands_120 rfl ?_
  refine z_iload_n g dL_lands_121 rfl ?_
  refine z_iload_n g dL_lands_122 rfl ?_
  refine z_lload g dL_lands_123 rfl ?_
  refine z_iload g dL_lands_125 rfl ?_
  refine z_callV g _ _ cv_L_95 (k_name _ M hX hV a b w c) k11 (by decide) rfl (by rw [hR]; decide) (by rw [hR]; decide) (by rw [hR]; decide) (Nat.le_of_ble_eq_true rfl) rfl dL_lands_127 (fun E9 M9 h9 => zx_out g hrt hno (by decide) (by decide) h9) (fun r_9 M1 h_9 => ?_)
  obtain ⟨hc0, rfl, g1, B2, hX2⟩ := h_9
  refine z_i2l g dL_lands_130 ?_
  refine z_goto (tgt := 160) g dL_lands_131 (by decide) ?_
  exact z_lret g hrt (by decide) (by decide) dL_lands_160 ⟨hc0, rfl, g1, B2, hX2⟩
set_option maxHeartbeats 4000000 in
set_option maxRecDepth 100000 in
theorem l_law (E : Ev) {B : Nat → Nat → Nat} {x : Nat} {S : Ms} (M : Mm) (hX : RX B x S M) (hV : INV S) (a b c : Int32) (w : Int64) : CT E yL_lands cL_lands 7 (some .long) 11 16 500 [.ref x, .int 6, .int a, .int b, .int c, .long w] M (LQ x M (cLawc S a b (c - c / 100 * 100) (c / 100 - c / 100 / 100 * 100) (c / 10000)) ((vLawc S a b (c - c / 100 * 100) (c / 100 - c / 100 / 100 * 100) (c / 10000)).toInt64) (sLawc S a b (c - c / 100 * 100) (c / 100 - c / 100 / 100 * 100) (c / 10000))) (fun E9 M' => M = M' ∧ ((cLawc S a b (c - c / 100 * 100) (c / 100 - c / 100 / 100 * 100) (c / 10000) = 1 ∧ E9 = IOE) ∨ (cLawc S a b (c - c / 100 * 100) (c / 100 - c / 100 / 100 * 100) (c / 10000) = 2 ∧ E9 = IAE) ∨ (cLawc S a b (c - c / 100 * 100) (c / 100 - c / 100 / 100 * 100) (c / 10000) = 3 ∧ E9 = ISE))) := by
  refine CT.of rfl (Nat.le_of_ble_eq_true rfl) (fun X g hrt hno hE hN hR hI => ?_)
  subst hE
  have k11 : kd M x % 1000 = 11 := by rw [hX.1.1]
  refine z_iload_n g dL_lands_0 rfl ?_
  refine z_iconst (v := 1) g dL_lands_1 (by decide) ?_
  refine z_icmp_ne (tgt := 23) g dL_lands_2 (by decide) (fun _ => ?_) (fun c_2 => absurd c_2 (by decide))
  refine z_iload_n g dL_lands_23 rfl ?_
  refine z_iconst (v := 2) g dL_lands_24 (by decide) ?_
  refine z_icmp_ne (tgt := 39) g dL_lands_25 (by decide) (fun _ => ?_) (fun c_25 => absurd c_25 (by decide))
  refine z_iload_n g dL_lands_39 rfl ?_
  refine z_iconst (v := 3) g dL_lands_40 (by decide) ?_
  refine z_icmp_ne (tgt := 55) g dL_lands_41 (by decide) (fun _ => ?_) (fun c_41 => absurd c_41 (by decide))
  refine z_iload_n g dL_lands_55 rfl ?_
  refine z_bipush (v := 7) g dL_lands_56 (by decide) ?_
  refine z_icmp_ne (tgt := 72) g dL_lands_58 (by decide) (fun _ => ?_) (fun c_58 => absurd c_58 (by decide))
  refine z_iload_n g dL_lands_72 rfl ?_
  refine z_if_ne (tgt := 88) g dL_lands_73 (by decide) (fun _ => ?_) (fun c_73 => absurd c_73 (by decide))
  refine z_iload_n g dL_lands_88 rfl ?_
  refine z_iconst (v := 4) g dL_lands_89 (by decide) ?_
  refine z_icmp_ne (tgt := 115) g dL_lands_90 (by decide) (fun _ => ?_) (fun c_90 => absurd c_90 (by decide))
  refine z_iload_n g dL_lands_115 rfl ?_
  refine z_iconst (v := 5) g dL_lands_116 (by decide) ?_
  refine z_icmp_ne (tgt := 134) g dL_lands_117 (by decide) (fun _ => ?_) (fun c_117 => absurd c_117 (by decide))
  refine z_aload_n g dL_lands_134 rfl ?_
  refine z_iload_n g dL_lands_135 rfl ?_
  refine z_iload_n g dL_lands_136 rfl ?_
  refine z_iload g dL_lands_137 rfl ?_
  refine z_bipush (v := 100) g dL_lands_139 (by decide) ?_
  refine z_irem g dL_lands_141 (by decide) ?_
  refine z_iload g dL_lands_142 rfl ?_
  refine z_bipush (v := 100) g dL_lands_144 (by decide) ?_
  refine z_idiv g dL_lands_146 (by decide) ?_
  refine z_bipush (v := 100) g dL_lands_147 (by decide) ?_
  refine z_irem g dL_lands_149 (by decide) ?_
  refine z_iload g dL_lands_150 rfl ?_
  refine z_sipush (v := 10000) g dL_lands_152 (by decide) ?_
  refine z_idiv g dL_lands_155 (by decide) ?_
  refine z_callV g _ _ cv_L_99 (k_law _ M hX hV a b (c - c / 100 * 100) (c / 100 - c / 100 / 100 * 100) (c / 10000)) k11 (by decide) rfl (by rw [hR]; decide) (by rw [hR]; decide) (by rw [hR]; decide) (Nat.le_of_ble_eq_true rfl) rfl dL_lands_156 (fun E9 M9 h9 => zx_out g hrt hno (by decide) (by decide) h9) (fun r_9 M1 h_9 => ?_)
  obtain ⟨hc0, rfl, g1, B2, hX2⟩ := h_9
  refine z_i2l g dL_lands_159 ?_
  exact z_lret g hrt (by decide) (by decide) dL_lands_160 ⟨hc0, rfl, g1, B2, hX2⟩
set_option maxHeartbeats 4000000 in
set_option maxRecDepth 100000 in
theorem l_except (E : Ev) {B : Nat → Nat → Nat} {x : Nat} {S : Ms} (M : Mm) (hX : RX B x S M) (hV : INV S) (a b c : Int32) (w : Int64) : CT E yL_lands cL_lands 7 (some .long) 11 16 500 [.ref x, .int 7, .int a, .int b, .int c, .long w] M (LQ x M (cExcept S a b c) (0) (sExcept S a b c)) (fun E9 M' => M = M' ∧ ((cExcept S a b c = 1 ∧ E9 = IOE) ∨ (cExcept S a b c = 2 ∧ E9 = IAE) ∨ (cExcept S a b c = 3 ∧ E9 = ISE))) := by
  refine CT.of rfl (Nat.le_of_ble_eq_true rfl) (fun X g hrt hno hE hN hR hI => ?_)
  subst hE
  have k11 : kd M x % 1000 = 11 := by rw [hX.1.1]
  refine z_iload_n g dL_lands_0 rfl ?_
  refine z_iconst (v := 1) g dL_lands_1 (by decide) ?_
  refine z_icmp_ne (tgt := 23) g dL_lands_2 (by decide) (fun _ => ?_) (fun c_2 => absurd c_2 (by decide))
  refine z_iload_n g dL_lands_23 rfl ?_
  refine z_iconst (v := 2) g dL_lands_24 (by decide) ?_
  refine z_icmp_ne (tgt := 39) g dL_lands_25 (by decide) (fun _ => ?_) (fun c_25 => absurd c_25 (by decide))
  refine z_iload_n g dL_lands_39 rfl ?_
  refine z_iconst (v := 3) g dL_lands_40 (by decide) ?_
  refine z_icmp_ne (tgt := 55) g dL_lands_41 (by decide) (fun _ => ?_) (fun c_41 => absurd c_41 (by decide))
  refine z_iload_n g dL_lands_55 rfl ?_
  refine z_bipush (v := 7) g dL_lands_56 (by decide) ?_
  refine z_icmp_ne (tgt := 72) g dL_lands_58 (by decide) (fun c_58 => absurd c_58 (by decide)) (fun _ => ?_)
  refine z_aload_n g dL_lands_61 rfl ?_
  refine z_iload_n g dL_lands_62 rfl ?_
  refine z_iload_n g dL_lands_63 rfl ?_
  refine z_iload g dL_lands_64 rfl ?_
  refine z_callV g _ _ cv_L_85 (k_except _ M hX hV a b c) k11 (by decide) rfl (by rw [hR]; decide) (by rw [hR]; decide) (by rw [hR]; decide) (Nat.le_of_ble_eq_true rfl) rfl dL_lands_66 (fun E9 M9 h9 => zx_out g hrt hno (by decide) (by decide) h9) (fun r_9 M1 h_9 => ?_)
  obtain ⟨hc0, rfl, g1, B2, hX2⟩ := h_9
  refine z_goto (tgt := 161) g dL_lands_69 (by decide) ?_
  refine z_lconst (v := 0) g dL_lands_161 (by decide) ?_
  exact z_lret g hrt (by decide) (by decide) dL_lands_162 ⟨hc0, rfl, g1, B2, hX2⟩
set_option maxHeartbeats 4000000 in
set_option maxRecDepth 100000 in
theorem l_form (E : Ev) {B : Nat → Nat → Nat} {x : Nat} {S : Ms} (M : Mm) (hX : RX B x S M) (hV : INV S) (a b c : Int32) (w : Int64) : CT E yL_councils cL_councils 7 (some .long) 11 16 500 [.ref x, .int 8, .int a, .int b, .int c, .long w] M (LQ x M (cForm S a b (c / 10000) (c - c / 10000 * 10000)) (vForm S a b (c / 10000) (c - c / 10000 * 10000)) (sForm S a b (c / 10000) (c - c / 10000 * 10000))) (fun E9 M' => M = M' ∧ ((cForm S a b (c / 10000) (c - c / 10000 * 10000) = 1 ∧ E9 = IOE) ∨ (cForm S a b (c / 10000) (c - c / 10000 * 10000) = 2 ∧ E9 = IAE))) := by
  refine CT.of rfl (Nat.le_of_ble_eq_true rfl) (fun X g hrt hno hE hN hR hI => ?_)
  subst hE
  have k11 : kd M x % 1000 = 11 := by rw [hX.1.1]
  refine z_iload_n g dL_councils_0 rfl ?_
  refine z_bipush (v := 16) g dL_councils_1 (by decide) ?_
  refine z_icmp_ne (tgt := 16) g dL_councils_3 (by decide) (fun _ => ?_) (fun c_3 => absurd c_3 (by decide))
  refine z_iload_n g dL_councils_16 rfl ?_
  refine z_bipush (v := 8) g dL_councils_17 (by decide) ?_
  refine z_icmp_ne (tgt := 43) g dL_councils_19 (by decide) (fun c_19 => absurd c_19 (by decide)) (fun _ => ?_)
  refine z_aload_n g dL_councils_22 rfl ?_
  refine z_iload_n g dL_councils_23 rfl ?_
  refine z_iload_n g dL_councils_24 rfl ?_
  refine z_iload g dL_councils_25 rfl ?_
  refine z_sipush (v := 10000) g dL_councils_27 (by decide) ?_
  refine z_idiv g dL_councils_30 (by decide) ?_
  refine z_iload g dL_councils_31 rfl ?_
  refine z_sipush (v := 10000) g dL_councils_33 (by decide) ?_
  refine z_irem g dL_councils_36 (by decide) ?_
  refine z_callV g _ _ cv_L_106 (k_callForm _ M hX hV a b (c / 10000) (c - c / 10000 * 10000)) k11 (by decide) rfl (by rw [hR]; decide) (by rw [hR]; decide) (by rw [hR]; decide) (Nat.le_of_ble_eq_true rfl) rfl dL_councils_37 (fun E9 M9 h9 => zx_out g hrt hno (by decide) (by decide) h9) (fun r_9 M1 h_9 => ?_)
  obtain ⟨hc0, rfl, g1, B2, hX2⟩ := h_9
  refine z_goto (tgt := 199) g dL_councils_40 (by decide) ?_
  exact z_lret g hrt (by decide) (by decide) dL_councils_199 ⟨hc0, rfl, g1, B2, hX2⟩
set_option maxHeartbeats 4000000 in
set_option maxRecDepth 100000 in
theorem l_petition (E : Ev) {B : Nat → Nat → Nat} {x : Nat} {S : Ms} (M : Mm) (hX : RX B x S M) (hV : INV S) (a b c : Int32) (w : Int64) : CT E yL_councils cL_councils 7 (some .long) 11 16 500 [.ref x, .int 9, .int a, .int b, .int c, .long w] M (LQ x M (cPetition S a b w c) ((vPetition S a b w c).toInt64) (sPetition S a b w c)) (fun E9 M' => M = M' ∧ ((cPetition S a b w c = 1 ∧ E9 = IOE) ∨ (cPetition S a b w c = 2 ∧ E9 = IAE) ∨ (cPetition S a b w c = 3 ∧ E9 = ISE))) := by
  refine CT.of rfl (Nat.le_of_ble_eq_true rfl) (fun X g hrt hno hE hN hR hI => ?_)
  subst hE
  have k11 : kd M x % 1000 = 11 := by rw [hX.1.1]
  refine z_iload_n g dL_councils_0 rfl ?_
  refine z_bipush (v := 16) g dL_councils_1 (by decide) ?_
  refine z_icmp_ne (tgt := 16) g dL_councils_3 (by decide) (fun _ => ?_) (fun c_3 => absurd c_3 (by decide))
  refine z_iload_n g dL_councils_16 rfl ?_
  refine z_bipush (v := 8) g dL_councils_17 (by decide) ?_
  refine z_icmp_ne (tgt := 43) g dL_councils_19 (by decide) (fun _ => ?_) (fun c_19 => absurd c_19 (by decide))
  refine z_iload_n g dL_councils_43 rfl ?_
  refine z_bipush (v := 9) g dL_councils_44 (by decide) ?_
  refine z_icmp_ne (tgt := 63) g dL_councils_46 (by decide) (fun c_46 => absurd c_46 (by decide)) (fun _ => ?_)
  refine z_aload_n g dL_councils_49 rfl ?_
  refine z_iload_n g dL_councils_50 rfl ?_
  refine z_iload_n g dL_councils_51 rfl ?_
  refine z_lload g dL_councils_52 rfl ?_
  refine z_iload g dL_councils_54 rfl ?_
  refine z_callV g _ _ cv_L_110 (k_petition _ M hX hV a b w c) k11 (by decide) rfl (by rw [hR]; decide) (by rw [hR]; decide) (by rw [hR]; decide) (Nat.le_of_ble_eq_true rfl) rfl dL_councils_56 (fun E9 M9 h9 => zx_out g hrt hno (by decide) (by decide) h9) (fun r_9 M1 h_9 => ?_)
  obtain ⟨hc0, rfl, g1, B2, hX2⟩ := h_9
  refine z_i2l g dL_councils_59 ?_
  refine z_goto (tgt := 199) g dL_councils_60 (by decide) ?_
  exact z_lret g hrt (by decide) (by decide) dL_councils_199 ⟨hc0, rfl, g1, B2, hX2⟩
set_option maxHeartbeats 4000000 in
set_option maxRecDepth 100000 in
theorem l_vote (E : Ev) {B : Nat → Nat → Nat} {x : Nat} {S : Ms} (M : Mm) (hX : RX B x S M) (hV : INV S) (a b c : Int32) (w : Int64) (bv : Int32) (hb : bv = if c = 1 then 1 else 0) : CT E yL_councils cL_councils 7 (some .long) 11 16 500 [.ref x, .int 10, .int a, .int b, .int c, .long w] M (LQ x M (cVote S a b bv) ((vVote S a b bv).toInt64) (sVote S a b bv)) (fun E9 M' => M = M' ∧ ((cVote S a b bv = 1 ∧ E9 = IOE) ∨ (cVote S a b bv = 2 ∧ E9 = ISE))) := by
  refine CT.of rfl (Nat.le_of_ble_eq_true rfl) (fun X g hrt hno hE hN hR hI => ?_)
  subst hE
  have k11 : kd M x % 1000 = 11 := by rw [hX.1.1]
  by_cases hv : c = 1
  · obtain rfl : bv = 1 := by rw [hb, if_pos hv]
    refine z_iload_n g dL_councils_0 rfl ?_
    refine z_bipush (v := 16) g dL_councils_1 (by decide) ?_
    refine z_icmp_ne (tgt := 16) g dL_councils_3 (by decide) (fun _ => ?_) (fun c_3 => absurd c_3 (by decide))
    refine z_iload_n g dL_councils_16 rfl ?_
    refine z_bipush (v := 8) g dL_councils_17 (by decide) ?_
    refine z_icmp_ne (tgt := 43) g dL_councils_19 (by decide) (fun _ => ?_) (fun c_19 => absurd c_19 (by decide))
    refine z_iload_n g dL_councils_43 rfl ?_
    refine z_bipush (v := 9) g dL_councils_44 (by decide) ?_
    refine z_icmp_ne (tgt := 63) g dL_councils_46 (by decide) (fun _ => ?_) (fun c_46 => absurd c_46 (by decide))
    refine z_iload_n g dL_councils_63 rfl ?_
    refine z_bipush (v := 10) g dL_councils_64 (by decide) ?_
    refine z_icmp_ne (tgt := 90) g dL_councils_66 (by decide) (fun c_66 => absurd c_66 (by decide)) (fun _ => ?_)
    refine z_aload_n g dL_councils_69 rfl ?_
    refine z_iload_n g dL_councils_70 rfl ?_
    refine z_iload_n g dL_councils_71 rfl ?_
    refine z_iload g dL_councils_72 rfl ?_
    refine z_iconst (v := 1) g dL_councils_74 (by decide) ?_
    refine z_icmp_ne (tgt := 82) g dL_councils_75 (by decide) (fun c_75 => (by exact absurd hv c_75)) (fun c_75 => ?_)
    refine z_iconst (v := 1) g dL_councils_78 (by decide) ?_
    refine z_goto (tgt := 83) g dL_councils_79 (by decide) ?_
    refine z_callV g _ _ cv_L_113 (k_vote _ M hX hV a b 1) k11 (by decide) rfl (by rw [hR]; decide) (by rw [hR]; decide) (by rw [hR]; decide) (Nat.le_of_ble_eq_true rfl) rfl dL_councils_83 (fun E9 M9 h9 => zx_out g hrt hno (by decide) (by decide) h9) (fun r_9 M1 h_9 => ?_)
    obtain ⟨hc0, rfl, g1, B2, hX2⟩ := h_9
    refine z_i2l g dL_councils_86 ?_
    refine z_goto (tgt := 199) g dL_councils_87 (by decide) ?_
    exact z_lret g hrt (by decide) (by decide) dL_councils_199 ⟨hc0, rfl, g1, B2, hX2⟩
  · obtain rfl : bv = 0 := by rw [hb, if_neg hv]
    refine z_iload_n g dL_councils_0 rfl ?_
    refine z_bipush (v := 16) g dL_councils_1 (by decide) ?_
    refine z_icmp_ne (tgt := 16) g dL_councils_3 (by decide) (fun _ => ?_) (fun c_3 => absurd c_3 (by decide))
    refine z_iload_n g dL_councils_16 rfl ?_
    refine z_bipush (v := 8) g dL_councils_17 (by decide) ?_
    refine z_icmp_ne (tgt := 43) g dL_councils_19 (by decide) (fun _ => ?_) (fun c_19 => absurd c_19 (by decide))
    refine z_iload_n g dL_councils_43 rfl ?_
    refine z_bipush (v := 9) g dL_councils_44 (by decide) ?_
    refine z_icmp_ne (tgt := 63) g dL_councils_46 (by decide) (fun _ => ?_) (fun c_46 => absurd c_46 (by decide))
    refine z_iload_n g dL_councils_63 rfl ?_
    refine z_bipush (v := 10) g dL_councils_64 (by decide) ?_
    refine z_icmp_ne (tgt := 90) g dL_councils_66 (by decide) (fun c_66 => absurd c_66 (by decide)) (fun _ => ?_)
    refine z_aload_n g dL_councils_69 rfl ?_
    refine z_iload_n g dL_councils_70 rfl ?_
    refine z_iload_n g dL_councils_71 rfl ?_
    refine z_iload g dL_councils_72 rfl ?_
    refine z_iconst (v := 1) g dL_councils_74 (by decide) ?_
    refine z_icmp_ne (tgt := 82) g dL_councils_75 (by decide) (fun c_75 => ?_) (fun c_75 => (by exact absurd c_75 hv))
    refine z_iconst (v := 0) g dL_councils_82 (by decide) ?_
    refine z_callV g _ _ cv_L_113 (k_vote _ M hX hV a b 0) k11 (by decide) rfl (by rw [hR]; decide) (by rw [hR]; decide) (by rw [hR]; decide) (Nat.le_of_ble_eq_true rfl) rfl dL_councils_83 (fun E9 M9 h9 => zx_out g hrt hno (by decide) (by decide) h9) (fun r_9 M1 h_9 => ?_)
    obtain ⟨hc0, rfl, g1, B2, hX2⟩ := h_9
    refine z_i2l g dL_councils_86 ?_
    refine z_goto (tgt := 199) g dL_councils_87 (by decide) ?_
    exact z_lret g hrt (by decide) (by decide) dL_councils_199 ⟨hc0, rfl, g1, B2, hX2⟩
set_option maxHeartbeats 4000000 in
set_option maxRecDepth 100000 in
theorem l_protest (E : Ev) {B : Nat → Nat → Nat} {x : Nat} {S : Ms} (M : Mm) (hX : RX B x S M) (hV : INV S) (a b c : Int32) (w : Int64) : CT E yL_councils cL_councils 7 (some .long) 11 16 500 [.ref x, .int 11, .int a, .int b, .int c, .long w] M (LQ x M (cProtest S a b) ((if vProtest S a b = true then 1 else 0)) (sProtest S a b)) (fun E9 M' => M = M' ∧ ((cProtest S a b = 1 ∧ E9 = IOE) ∨ (cProtest S a b = 2 ∧ E9 = ISE))) := by
  refine CT.of rfl (Nat.le_of_ble_eq_true rfl) (fun X g hrt hno hE hN hR hI => ?_)
  subst hE
  have k11 : kd M x % 1000 = 11 := by rw [hX.1.1]
  refine z_iload_n g dL_councils_0 rfl ?_
  refine z_bipush (v := 16) g dL_councils_1 (by decide) ?_
  refine z_icmp_ne (tgt := 16) g dL_councils_3 (by decide) (fun _ => ?_) (fun c_3 => absurd c_3 (by decide))
  refine z_iload_n g dL_councils_16 rfl ?_
  refine z_bipush (v := 8) g dL_councils_17 (by decide) ?_
  refine z_icmp_ne (tgt := 43) g dL_councils_19 (by decide) (fun _ => ?_) (fun c_19 => absurd c_19 (by decide))
  refine z_iload_n g dL_councils_43 rfl ?_
  refine z_bipush (v := 9) g dL_councils_44 (by decide) ?_
  refine z_icmp_ne (tgt := 63) g dL_councils_46 (by decide) (fun _ => ?_) (fun c_46 => absurd c_46 (by decide))
  refine z_iload_n g dL_councils_63 rfl ?_
  refine z_bipush (v := 10) g dL_councils_64 (by decide) ?_
  refine z_icmp_ne (tgt := 90) g dL_councils_66 (by decide) (fun _ => ?_) (fun c_66 => absurd c_66 (by decide))
  refine z_iload_n g dL_councils_90 rfl ?_
  refine z_bipush (v := 11) g dL_councils_91 (by decide) ?_
  refine z_icmp_ne (tgt := 113) g dL_councils_93 (by decide) (fun c_93 => absurd c_93 (by decide)) (fun _ => ?_)
  refine z_aload_n g dL_councils_96 rfl ?_
  refine z_iload_n g dL_councils_97 rfl ?_
  refine z_iload_n g dL_councils_98 rfl ?_
  refine z_callV g _ _ cv_L_117 (k_protest _ M hX hV a b) k11 (by decide) rfl (by rw [hR]; decide) (by rw [hR]; decide) (by rw [hR]; decide) (Nat.le_of_ble_eq_true rfl) rfl dL_councils_99 (fun E9 M9 h9 => zx_out g hrt hno (by decide) (by decide) h9) (fun r_9 M1 h_9 => ?_)
  obtain ⟨hc0, rfl, g1, B2, hX2⟩ := h_9
  refine z_if_eq (tgt := 109) g dL_councils_102 (by decide) (fun c_102 => ?_) (fun c_102 => ?_)
  · refine z_lconst (v := 0) g dL_councils_109 (by decide) ?_
    refine z_goto (tgt := 199) g dL_councils_110 (by decide) ?_
    exact z_lret g hrt (by decide) (by decide) dL_councils_199 ⟨hc0, congrArg (fun z => some (Value.long z)) (if_neg (fun z => absurd ((b2i_0.mp c_102).symm.trans z) (by decide))).symm, g1, B2, hX2⟩
  · refine z_lconst (v := 1) g dL_councils_105 (by decide) ?_
    refine z_goto (tgt := 199) g dL_councils_106 (by decide) ?_
    exact z_lret g hrt (by decide) (by decide) dL_councils_199 ⟨hc0, congrArg (fun z => some (Value.long z)) (if_pos (b2i_n0.mp c_102)).symm, g1, B2, hX2⟩
set_option maxHeartbeats 4000000 in
set_option maxRecDepth 100000 in
theorem l_decide (E : Ev) {B : Nat → Nat → Nat} {x : Nat} {S : Ms} (M : Mm) (hX : RX B x S M) (hV : INV S) (a b c : Int32) (w : Int64) : CT E yL_councils cL_councils 7 (some .long) 11 16 500 [.ref x, .int 12, .int a, .int b, .int c, .long w] M (LQ x M (cDecide S a) ((vDecide S a).toInt64) (sDecide S a)) (fun E9 M' => M = M' ∧ ((cDecide S a = 1 ∧ E9 = IOE) ∨ (cDecide S a = 2 ∧ E9 = ISE))) := by
  refine CT.of rfl (Nat.le_of_ble_eq_true rfl) (fun X g hrt hno hE hN hR hI => ?_)
  subst hE
  have k11 : kd M x % 1000 = 11 := by rw [hX.1.1]
  refine z_iload_n g dL_councils_0 rfl ?_
  refine z_bipush (v := 16) g dL_councils_1 (by decide) ?_
  refine z_icmp_ne (tgt := 16) g dL_councils_3 (by decide) (fun _ => ?_) (fun c_3 => absurd c_3 (by decide))
  refine z_iload_n g dL_councils_16 rfl ?_
  refine z_bipush (v := 8) g dL_councils_17 (by decide) ?_
  refine z_icmp_ne (tgt := 43) g dL_councils_19 (by decide) (fun _ => ?_) (fun c_19 => absurd c_19 (by decide))
  refine z_iload_n g dL_councils_43 rfl ?_
  refine z_bipush (v := 9) g dL_councils_44 (by decide) ?_
  refine z_icmp_ne (tgt := 63) g dL_councils_46 (by decide) (fun _ => ?_) (fun c_46 => absurd c_46 (by decide))
  refine z_iload_n g dL_councils_63 rfl ?_
  refine z_bipush (v := 10) g dL_councils_64 (by decide) ?_
  refine z_icmp_ne (tgt := 90) g dL_councils_66 (by decide) (fun _ => ?_) (fun c_66 => absurd c_66 (by decide))
  refine z_iload_n g dL_councils_90 rfl ?_
  refine z_bipush (v := 11) g dL_councils_91 (by decide) ?_
  refine z_icmp_ne (tgt := 113) g dL_councils_93 (by decide) (fun _ => ?_) (fun c_93 => absurd c_93 (by decide))
  refine z_iload_n g dL_councils_113 rfl ?_
  refine z_bipush (v := 12) g dL_councils_114 (by decide) ?_
  refine z_icmp_ne (tgt := 128) g dL_councils_116 (by decide) (fun c_116 => absurd c_116 (by decide)) (fun _ => ?_)
  refine z_aload_n g dL_councils_119 rfl ?_
  refine z_iload_n g dL_councils_120 rfl ?_
  refine z_callV g _ _ cv_L_121 (k_decide _ M hX hV a) k11 (by decide) rfl (by rw [hR]; decide) (by rw [hR]; decide) (by rw [hR]; decide) (Nat.le_of_ble_eq_true rfl) rfl dL_councils_121 (fun E9 M9 h9 => zx_out g hrt hno (by decide) (by decide) h9) (fun r_9 M1 h_9 => ?_)
  obtain ⟨hc0, rfl, g1, B2, hX2⟩ := h_9
  refine z_i2l g dL_councils_124 ?_
  refine z_goto (tgt := 199) g dL_councils_125 (by decide) ?_
  exact z_lret g hrt (by decide) (by decide) dL_councils_199 ⟨hc0, rfl, g1, B2, hX2⟩
set_option maxHeartbeats 4000000 in
set_option maxRecDepth 100000 in
theorem l_appeal (E : Ev) {B : Nat → Nat → Nat} {x : Nat} {S : Ms} (M : Mm) (hX : RX B x S M) (hV : INV S) (a b c : Int32) (w : Int64) : CT E yL_councils cL_councils 7 (some .long) 11 16 500 [.ref x, .int 13, .int a, .int b, .int c, .long w] M (LQ x M (cAppeal S a) ((vAppeal S a).toInt64) (sAppeal S a)) (fun E9 M' => M = M' ∧ ((cAppeal S a = 1 ∧ E9 = IOE) ∨ (cAppeal S a = 2 ∧ E9 = ISE))) := by
  refine CT.of rfl (Nat.le_of_ble_eq_true rfl) (fun X g hrt hno hE hN hR hI => ?_)
  subst hE
  have k11 : kd M x % 1000 = 11 := by rw [hX.1.1]
  refine z_iload_n g dL_councils_0 rfl ?_
  refine z_bipush (v := 16) g dL_councils_1 (by decide) ?_
  refine z_icmp_ne (tgt := 16) g dL_councils_3 (by decide) (fun _ => ?_) (fun c_3 => absurd c_3 (by decide))
  refine z_iload_n g dL_councils_16 rfl ?_
  refine z_bipush (v := 8) g dL_councils_17 (by decide) ?_
  refine z_icmp_ne (tgt := 43) g dL_councils_19 (by decide) (fun _ => ?_) (fun c_19 => absurd c_19 (by decide))
  refine z_iload_n g dL_councils_43 rfl ?_
  refine z_bipush (v := 9) g dL_councils_44 (by decide) ?_
  refine z_icmp_ne (tgt := 63) g dL_councils_46 (by decide) (fun _ => ?_) (fun c_46 => absurd c_46 (by decide))
  refine z_iload_n g dL_councils_63 rfl ?_
  refine z_bipush (v := 10) g dL_councils_64 (by decide) ?_
  refine z_icmp_ne (tgt := 90) g dL_councils_66 (by decide) (fun _ => ?_) (fun c_66 => absurd c_66 (by decide))
  refine z_iload_n g dL_councils_90 rfl ?_
  refine z_bipush (v := 11) g dL_councils_91 (by decide) ?_
  refine z_icmp_ne (tgt := 113) g dL_councils_93 (by decide) (fun _ => ?_) (fun c_93 => absurd c_93 (by decide))
  refine z_iload_n g dL_councils_113 rfl ?_
  refine z_bipush (v := 12) g dL_councils_114 (by decide) ?_
  refine z_icmp_ne (tgt := 128) g dL_councils_116 (by decide) (fun _ => ?_) (fun c_116 => absurd c_116 (by decide))
  refine z_iload_n g dL_councils_128 rfl ?_
  refine z_bipush (v := 13) g dL_councils_129 (by decide) ?_
  refine z_icmp_ne (tgt := 143) g dL_councils_131 (by decide) (fun c_131 => absurd c_131 (by decide)) (fun _ => ?_)
  refine z_aload_n g dL_councils_134 rfl ?_
  refine z_iload_n g dL_councils_135 rfl ?_
  refine z_callV g _ _ cv_L_124 (k_appeal _ M hX hV a) k11 (by decide) rfl (by rw [hR]; decide) (by rw [hR]; decide) (by rw [hR]; decide) (Nat.le_of_ble_eq_true rfl) rfl dL_councils_136 (fun E9 M9 h9 => zx_out g hrt hno (by decide) (by decide) h9) (fun r_9 M1 h_9 => ?_)
  obtain ⟨hc0, rfl, g1, B2, hX2⟩ := h_9
  refine z_i2l g dL_councils_139 ?_
  refine z_goto (tgt := 199) g dL_councils_140 (by decide) ?_
  exact z_lret g hrt (by decide) (by decide) dL_councils_199 ⟨hc0, rfl, g1, B2, hX2⟩
set_option maxHeartbeats 4000000 in
set_option maxRecDepth 100000 in
theorem l_petOf (E : Ev) {B : Nat → Nat → Nat} {x : Nat} {S : Ms} (M : Mm) (hX : RX B x S M) (hV : INV S) (a b c : Int32) (w : Int64) : CT E yL_councils cL_councils 7 (some .long) 11 16 500 [.ref x, .int 14, .int a, .int b, .int c, .long w] M (LQ x M (cPetOf S a b) ((vPetOf S a b).toInt64) (sPetOf S a b)) (fun E9 M' => M = M' ∧ ((cPetOf S a b = 1 ∧ E9 = IOE) ∨ (cPetOf S a b = 2 ∧ E9 = IAE))) := by
  refine CT.of rfl (Nat.le_of_ble_eq_true rfl) (fun X g hrt hno hE hN hR hI => ?_)
  subst hE
  have k11 : kd M x % 1000 = 11 := by rw [hX.1.1]
  refine z_iload_n g dL_councils_0 rfl ?_
  refine z_bipush (v := 16) g dL_councils_1 (by decide) ?_
  refine z_icmp_ne (tgt := 16) g dL_councils_3 (by decide) (fun _ => ?_) (fun c_3 => absurd c_3 (by decide))
  refine z_iload_n g dL_councils_16 rfl ?_
  refine z_bipush (v := 8) g dL_councils_17 (by decide) ?_
  refine z_icmp_ne (tgt := 43) g dL_councils_19 (by decide) (fun _ => ?_) (fun c_19 => absurd c_19 (by decide))
  refine z_iload_n g dL_councils_43 rfl ?_
  refine z_bipush (v := 9) g dL_councils_44 (by decide) ?_
  refine z_icmp_ne (tgt := 63) g dL_councils_46 (by decide) (fun _ => ?_) (fun c_46 => absurd c_46 (by decide))
  refine z_iload_n g dL_councils_63 rfl ?_
  refine z_bipush (v := 10) g dL_councils_64 (by decide) ?_
  refine z_icmp_ne (tgt := 90) g dL_councils_66 (by decide) (fun _ => ?_) (fun c_66 => absurd c_66 (by decide))
  refine z_iload_n g dL_councils_90 rfl ?_
  refine z_bipush (v := 11) g dL_councils_91 (by decide) ?_
  refine z_icmp_ne (tgt := 113) g dL_councils_93 (by decide) (fun _ => ?_) (fun c_93 => absurd c_93 (by decide))
  refine z_iload_n g dL_councils_113 rfl ?_
  refine z_bipush (v := 12) g dL_councils_114 (by decide) ?_
  refine z_icmp_ne (tgt := 128) g dL_councils_116 (by decide) (fun _ => ?_) (fun c_116 => absurd c_116 (by decide))
  refine z_iload_n g dL_councils_128 rfl ?_
  refine z_bipush (v := 13) g dL_councils_129 (by decide) ?_
  refine z_icmp_ne (tgt := 143) g dL_councils_131 (by decide) (fun _ => ?_) (fun c_131 => absurd c_131 (by decide))
  refine z_iload_n g dL_councils_143 rfl ?_
  refine z_bipush (v := 14) g dL_councils_144 (by decide) ?_
  refine z_icmp_ne (tgt := 159) g dL_councils_146 (by decide) (fun c_146 => absurd c_146 (by decide)) (fun _ => ?_)
  refine z_aload_n g dL_councils_149 rfl ?_
  refine z_iload_n g dL_councils_150 rfl ?_
  refine z_iload_n g dL_councils_151 rfl ?_
  refine z_callV g _ _ cv_L_127 (k_petOf _ M hX hV a b) k11 (by decide) rfl (by rw [hR]; decide) (by rw [hR]; decide) (by rw [hR]; decide) (Nat.le_of_ble_eq_true rfl) rfl dL_councils_152 (fun E9 M9 h9 => zx_out g hrt hno (by decide) (by decide) h9) (fun r_9 M1 h_9 => ?_)
  obtain ⟨hc0, rfl, g1, B2, hX2⟩ := h_9
  refine z_i2l g dL_councils_155 ?_
  refine z_goto (tgt := 199) g dL_councils_156 (by decide) ?_
  exact z_lret g hrt (by decide) (by decide) dL_councils_199 ⟨hc0, rfl, g1, B2, hX2⟩
set_option maxHeartbeats 4000000 in
set_option maxRecDepth 100000 in
theorem l_census (E : Ev) {B : Nat → Nat → Nat} {x : Nat} {S : Ms} (M : Mm) (hX : RX B x S M) (hV : INV S) (a b c : Int32) (w : Int64) : CT E yL_councils cL_councils 7 (some .long) 11 16 500 [.ref x, .int 15, .int a, .int b, .int c, .long w] M (LQ x M (cCensus S a b c) ((vCensus S a b c).toInt64) (sCensus S a b c)) (fun E9 M' => M = M' ∧ ((cCensus S a b c = 1 ∧ E9 = IOE) ∨ (cCensus S a b c = 2 ∧ E9 = IAE))) := by
  refine CT.of rfl (Nat.le_of_ble_eq_true rfl) (fun X g hrt hno hE hN hR hI => ?_)
  subst hE
  have k11 : kd M x % 1000 = 11 := by rw [hX.1.1]
  refine z_iload_n g dL_councils_0 rfl ?_
  refine z_bipush (v := 16) g dL_councils_1 (by decide) ?_
  refine z_icmp_ne (tgt := 16) g dL_councils_3 (by decide) (fun _ => ?_) (fun c_3 => absurd c_3 (by decide))
  refine z_iload_n g dL_councils_16 rfl ?_
  refine z_bipush (v := 8) g dL_councils_17 (by decide) ?_
  refine z_icmp_ne (tgt := 43) g dL_councils_19 (by decide) (fun _ => ?_) (fun c_19 => absurd c_19 (by decide))
  refine z_iload_n g dL_councils_43 rfl ?_
  refine z_bipush (v := 9) g dL_councils_44 (by decide) ?_
  refine z_icmp_ne (tgt := 63) g dL_councils_46 (by decide) (fun _ => ?_) (fun c_46 => absurd c_46 (by decide))
  refine z_iload_n g dL_councils_63 rfl ?_
  refine z_bipush (v := 10) g dL_councils_64 (by decide) ?_
  refine z_icmp_ne (tgt := 90) g dL_councils_66 (by decide) (fun _ => ?_) (fun c_66 => absurd c_66 (by decide))
  refine z_iload_n g dL_councils_90 rfl ?_
  refine z_bipush (v := 11) g dL_councils_91 (by decide) ?_
  refine z_icmp_ne (tgt := 113) g dL_councils_93 (by decide) (fun _ => ?_) (fun c_93 => absurd c_93 (by decide))
  refine z_iload_n g dL_councils_113 rfl ?_
  refine z_bipush (v := 12) g dL_councils_114 (by decide) ?_
  refine z_icmp_ne (tgt := 128) g dL_councils_116 (by decide) (fun _ => ?_) (fun c_116 => absurd c_116 (by decide))
  refine z_iload_n g dL_councils_128 rfl ?_
  refine z_bipush (v := 13) g dL_councils_129 (by decide) ?_
  refine z_icmp_ne (tgt := 143) g dL_councils_131 (by decide) (fun _ => ?_) (fun c_131 => absurd c_131 (by decide))
  refine z_iload_n g dL_councils_143 rfl ?_
  refine z_bipush (v := 14) g dL_councils_144 (by decide) ?_
  refine z_icmp_ne (tgt := 159) g dL_councils_146 (by decide) (fun _ => ?_) (fun c_146 => absurd c_146 (by decide))
  refine z_iload_n g dL_councils_159 rfl ?_
  refine z_bipush (v := 15) g dL_councils_160 (by decide) ?_
  refine z_icmp_ne (tgt := 177) g dL_councils_162 (by decide) (fun c_162 => absurd c_162 (by decide)) (fun _ => ?_)
  refine z_aload_n g dL_councils_165 rfl ?_
  refine z_iload_n g dL_councils_166 rfl ?_
  refine z_iload_n g dL_councils_167 rfl ?_
  refine z_iload g dL_councils_168 rfl ?_
  refine z_callV g _ _ cv_L_130 (k_census _ M hX hV a b c) k11 (by decide) rfl (by rw [hR]; decide) (by rw [hR]; decide) (by rw [hR]; decide) (Nat.le_of_ble_eq_true rfl) rfl dL_councils_170 (fun E9 M9 h9 => zx_out g hrt hno (by decide) (by decide) h9) (fun r_9 M1 h_9 => ?_)
  obtain ⟨hc0, rfl, g1, B2, hX2⟩ := h_9
  refine z_i2l g dL_councils_173 ?_
  refine z_goto (tgt := 199) g dL_councils_174 (by decide) ?_
  exact z_lret g hrt (by decide) (by decide) dL_councils_199 ⟨hc0, rfl, g1, B2, hX2⟩
set_option maxHeartbeats 4000000 in
set_option maxRecDepth 100000 in
theorem l_dispute (E : Ev) {B : Nat → Nat → Nat} {x : Nat} {S : Ms} (M : Mm) (hX : RX B x S M) (hV : INV S) (a b c : Int32) (w : Int64) : CT E yL_councils cL_councils 7 (some .long) 11 16 500 [.ref x, .int 16, .int a, .int b, .int c, .long w] M (LQ x M (cDispute S a b c) (0) (sDispute S a b c)) (fun E9 M' => M = M' ∧ ((cDispute S a b c = 1 ∧ E9 = IOE))) := by
  refine CT.of rfl (Nat.le_of_ble_eq_true rfl) (fun X g hrt hno hE hN hR hI => ?_)
  subst hE
  have k11 : kd M x % 1000 = 11 := by rw [hX.1.1]
  refine z_iload_n g dL_councils_0 rfl ?_
  refine z_bipush (v := 16) g dL_councils_1 (by decide) ?_
  refine z_icmp_ne (tgt := 16) g dL_councils_3 (by decide) (fun c_3 => absurd c_3 (by decide)) (fun _ => ?_)
  refine z_aload_n g dL_councils_6 rfl ?_
  refine z_iload_n g dL_councils_7 rfl ?_
  refine z_iload_n g dL_councils_8 rfl ?_
  refine z_iload g dL_councils_9 rfl ?_
  refine z_callV g _ _ cv_L_103 (k_dispute _ M hX hV a b c) k11 (by decide) rfl (by rw [hR]; decide) (by rw [hR]; decide) (by rw [hR]; decide) (Nat.le_of_ble_eq_true rfl) rfl dL_councils_11 (fun E9 M9 h9 => zx_out g hrt hno (by decide) (by decide) h9) (fun r_9 M1 h_9 => ?_)
  obtain ⟨hc0, rfl, g1, B2, hX2⟩ := h_9
  refine z_lconst (v := 0) g dL_councils_14 (by decide) ?_
  exact z_lret g hrt (by decide) (by decide) dL_councils_15 ⟨hc0, rfl, g1, B2, hX2⟩
set_option maxHeartbeats 4000000 in
set_option maxRecDepth 100000 in
theorem l_shown (E : Ev) {B : Nat → Nat → Nat} {x : Nat} {S : Ms} (M : Mm) (hX : RX B x S M) (hV : INV S) (a b c : Int32) (w : Int64) : CT E yL_councils cL_councils 7 (some .long) 11 16 500 [.ref x, .int 17, .int a, .int b, .int c, .long w] M (LQ x M (cShown S a b) ((vShown S a b).toInt64) (sShown S a b)) (fun E9 M' => M = M' ∧ ((cShown S a b = 1 ∧ E9 = IOE) ∨ (cShown S a b = 2 ∧ E9 = IAE))) := by
  refine CT.of rfl (Nat.le_of_ble_eq_true rfl) (fun X g hrt hno hE hN hR hI => ?_)
  subst hE
  have k11 : kd M x % 1000 = 11 := by rw [hX.1.1]
  refine z_iload_n g dL_councils_0 rfl ?_
  refine z_bipush (v := 16) g dL_councils_1 (by decide) ?_
  refine z_icmp_ne (tgt := 16) g dL_councils_3 (by decide) (fun _ => ?_) (fun c_3 => absurd c_3 (by decide))
  refine z_iload_n g dL_councils_16 rfl ?_
  refine z_bipush (v := 8) g dL_councils_17 (by decide) ?_
  refine z_icmp_ne (tgt := 43) g dL_councils_19 (by decide) (fun _ => ?_) (fun c_19 => absurd c_19 (by decide))
  refine z_iload_n g dL_councils_43 rfl ?_
  refine z_bipush (v := 9) g dL_councils_44 (by decide) ?_
  refine z_icmp_ne (tgt := 63) g dL_councils_46 (by decide) (fun _ => ?_) (fun c_46 => absurd c_46 (by decide))
  refine z_iload_n g dL_councils_63 rfl ?_
  refine z_bipush (v := 10) g dL_councils_64 (by decide) ?_
  refine z_icmp_ne (tgt := 90) g dL_councils_66 (by decide) (fun _ => ?_) (fun c_66 => absurd c_66 (by decide))
  refine z_iload_n g dL_councils_90 rfl ?_
  refine z_bipush (v := 11) g dL_councils_91 (by decide) ?_
  refine z_icmp_ne (tgt := 113) g dL_councils_93 (by decide) (fun _ => ?_) (fun c_93 => absurd c_93 (by decide))
  refine z_iload_n g dL_councils_113 rfl ?_
  refine z_bipush (v := 12) g dL_councils_114 (by decide) ?_
  refine z_icmp_ne (tgt := 128) g dL_councils_116 (by decide) (fun _ => ?_) (fun c_116 => absurd c_116 (by decide))
  refine z_iload_n g dL_councils_128 rfl ?_
  refine z_bipush (v := 13) g dL_councils_129 (by decide) ?_
  refine z_icmp_ne (tgt := 143) g dL_councils_131 (by decide) (fun _ => ?_) (fun c_131 => absurd c_131 (by decide))
  refine z_iload_n g dL_councils_143 rfl ?_
  refine z_bipush (v := 14) g dL_councils_144 (by decide) ?_
  refine z_icmp_ne (tgt := 159) g dL_councils_146 (by decide) (fun _ => ?_) (fun c_146 => absurd c_146 (by decide))
  refine z_iload_n g dL_councils_159 rfl ?_
  refine z_bipush (v := 15) g dL_councils_160 (by decide) ?_
  refine z_icmp_ne (tgt := 177) g dL_councils_162 (by decide) (fun _ => ?_) (fun c_162 => absurd c_162 (by decide))
  refine z_iload_n g dL_councils_177 rfl ?_
  refine z_bipush (v := 17) g dL_councils_178 (by decide) ?_
  refine z_icmp_ne (tgt := 193) g dL_councils_180 (by decide) (fun c_180 => absurd c_180 (by decide)) (fun _ => ?_)
  refine z_aload_n g dL_councils_183 rfl ?_
  refine z_iload_n g dL_councils_184 rfl ?_
  refine z_iload_n g dL_councils_185 rfl ?_
  refine z_callV g _ _ cv_L_133 (k_shown _ M hX hV a b) k11 (by decide) rfl (by rw [hR]; decide) (by rw [hR]; decide) (by rw [hR]; decide) (Nat.le_of_ble_eq_true rfl) rfl dL_councils_186 (fun E9 M9 h9 => zx_out g hrt hno (by decide) (by decide) h9) (fun r_9 M1 h_9 => ?_)
  obtain ⟨hc0, rfl, g1, B2, hX2⟩ := h_9
  refine z_i2l g dL_councils_189 ?_
  refine z_goto (tgt := 199) g dL_councils_190 (by decide) ?_
  exact z_lret g hrt (by decide) (by decide) dL_councils_199 ⟨hc0, rfl, g1, B2, hX2⟩
set_option maxHeartbeats 4000000 in
set_option maxRecDepth 100000 in
theorem l_display (E : Ev) {B : Nat → Nat → Nat} {x : Nat} {S : Ms} (M : Mm) (hX : RX B x S M) (hV : INV S) (a b c : Int32) (w : Int64) : CT E yL_councils cL_councils 7 (some .long) 11 16 500 [.ref x, .int 18, .int a, .int b, .int c, .long w] M (LQ x M (cDisplay S a b) (vDisplay S a b) (sDisplay S a b)) (fun E9 M' => M = M' ∧ ((cDisplay S a b = 1 ∧ E9 = IOE))) := by
  refine CT.of rfl (Nat.le_of_ble_eq_true rfl) (fun X g hrt hno hE hN hR hI => ?_)
  subst hE
  have k11 : kd M x % 1000 = 11 := by rw [hX.1.1]
  refine z_iload_n g dL_councils_0 rfl ?_
  refine z_bipush (v := 16) g dL_councils_1 (by decide) ?_
  refine z_icmp_ne (tgt := 16) g dL_councils_3 (by decide) (fun _ => ?_) (fun c_3 => absurd c_3 (by decide))
  refine z_iload_n g dL_councils_16 rfl ?_
  refine z_bipush (v := 8) g dL_councils_17 (by decide) ?_
  refine z_icmp_ne (tgt := 43) g dL_councils_19 (by decide) (fun _ => ?_) (fun c_19 => absurd c_19 (by decide))
  refine z_iload_n g dL_councils_43 rfl ?_
  refine z_bipush (v := 9) g dL_councils_44 (by decide) ?_
  refine z_icmp_ne (tgt := 63) g dL_councils_46 (by decide) (fun _ => ?_) (fun c_46 => absurd c_46 (by decide))
  refine z_iload_n g dL_councils_63 rfl ?_
  refine z_bipush (v := 10) g dL_councils_64 (by decide) ?_
  refine z_icmp_ne (tgt := 90) g dL_councils_66 (by decide) (fun _ => ?_) (fun c_66 => absurd c_66 (by decide))
  refine z_iload_n g dL_councils_90 rfl ?_
  refine z_bipush (v := 11) g dL_councils_91 (by decide) ?_
  refine z_icmp_ne (tgt := 113) g dL_councils_93 (by decide) (fun _ => ?_) (fun c_93 => absurd c_93 (by decide))
  refine z_iload_n g dL_councils_113 rfl ?_
  refine z_bipush (v := 12) g dL_councils_114 (by decide) ?_
  refine z_icmp_ne (tgt := 128) g dL_councils_116 (by decide) (fun _ => ?_) (fun c_116 => absurd c_116 (by decide))
  refine z_iload_n g dL_councils_128 rfl ?_
  refine z_bipush (v := 13) g dL_councils_129 (by decide) ?_
  refine z_icmp_ne (tgt := 143) g dL_councils_131 (by decide) (fun _ => ?_) (fun c_131 => absurd c_131 (by decide))
  refine z_iload_n g dL_councils_143 rfl ?_
  refine z_bipush (v := 14) g dL_councils_144 (by decide) ?_
  refine z_icmp_ne (tgt := 159) g dL_councils_146 (by decide) (fun _ => ?_) (fun c_146 => absurd c_146 (by decide))
  refine z_iload_n g dL_councils_159 rfl ?_
  refine z_bipush (v := 15) g dL_councils_160 (by decide) ?_
  refine z_icmp_ne (tgt := 177) g dL_councils_162 (by decide) (fun _ => ?_) (fun c_162 => absurd c_162 (by decide))
  refine z_iload_n g dL_councils_177 rfl ?_
  refine z_bipush (v := 17) g dL_councils_178 (by decide) ?_
  refine z_icmp_ne (tgt := 193) g dL_councils_180 (by decide) (fun _ => ?_) (fun c_180 => absurd c_180 (by decide))
  refine z_aload_n g dL_councils_193 rfl ?_
  refine z_iload_n g dL_councils_194 rfl ?_
  refine z_iload_n g dL_councils_195 rfl ?_
  refine z_callV g _ _ cv_L_136 (k_display _ M hX hV a b) k11 (by decide) rfl (by rw [hR]; decide) (by rw [hR]; decide) (by rw [hR]; decide) (Nat.le_of_ble_eq_true rfl) rfl dL_councils_196 (fun E9 M9 h9 => zx_out g hrt hno (by decide) (by decide) h9) (fun r_9 M1 h_9 => ?_)
  obtain ⟨hc0, rfl, g1, B2, hX2⟩ := h_9
  exact z_lret g hrt (by decide) (by decide) dL_councils_199 ⟨hc0, rfl, g1, B2, hX2⟩
