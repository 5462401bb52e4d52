/-! ===== the law: act (printed by gen/mk_act.py) ===== -/
def whenE (now v : Int32) : Int32 := if 0 ≤ (now + lowA (v >>> ((8 : Int32) &&& 31)) 60 - (20 : Int32)) then (if (now + lowA (v >>> ((8 : Int32) &&& 31)) 60 - (20 : Int32)) ≤ 9999 then (now + lowA (v >>> ((8 : Int32) &&& 31)) 60 - (20 : Int32)) else 9999) else 0
def actE (now v : Int32) (S : Ms) : Int64 × Ms := if 30 ≤ lowA v 64 then (if 52 ≤ lowA v 64 then (if 54 ≤ lowA v 64 then (if lowA v 64 = 54 then (if v >>> ((5 : Int32) &&& 31) &&& 1 = 0 then g_write (lowA (v >>> ((6 : Int32) &&& 31)) 4) 0 0 (wordA (v >>> ((4 : Int32) &&& 31)) false) S else g_back (lowA (v >>> ((6 : Int32) &&& 31)) 4) 0 0 (wordA (v >>> ((4 : Int32) &&& 31)) false) S) else (if lowA v 64 = 55 then (g_find 0 ((100 : Int32) * lowA (v >>> ((5 : Int32) &&& 31)) 40 + lowA (v >>> ((7 : Int32) &&& 31)) 40) (lowA (v >>> ((12 : Int32) &&& 31)) 3) (wordA (v >>> ((4 : Int32) &&& 31)) false) S) else (if 58 ≤ lowA v 64 then (if lowA v 64 = 58 then (g_order (lowA (v >>> ((6 : Int32) &&& 31)) 8) 0 0 0 S) else (if lowA v 64 = 59 then (g_budget (lowA (v >>> ((6 : Int32) &&& 31)) 4) 0 0 0 S) else ((0, S)))) else (g_pull (lowA (v >>> ((6 : Int32) &&& 31)) 4) 0 0 0 S)))) else (g_table (lowA (v >>> ((6 : Int32) &&& 31)) 4) ((1 : Int32) + lowA (v >>> ((9 : Int32) &&& 31)) 5) ((1 : Int32) + lowA (v >>> ((11 : Int32) &&& 31)) 6) 0 S)) else (if 33 ≤ lowA v 64 then (if 42 ≤ lowA v 64 then (if lowA v 64 = 42 then (g_protest (lowA (v >>> ((7 : Int32) &&& 31)) 6) (lowA (v >>> ((10 : Int32) &&& 31)) 8) 0 0 S) else (if 48 ≤ lowA v 64 then (if 50 ≤ lowA v 64 then (if lowA v 64 = 50 then (g_census (lowA (v >>> ((6 : Int32) &&& 31)) 8) (lowA (v >>> ((9 : Int32) &&& 31)) 2) (lowA (v >>> ((11 : Int32) &&& 31)) 60) 0 S) else (g_dispute (lowA (v >>> ((6 : Int32) &&& 31)) 8) (lowA (v >>> ((9 : Int32) &&& 31)) 2) (lowA (v >>> ((11 : Int32) &&& 31)) 4) 0 S)) else (g_appeal (lowA (v >>> ((7 : Int32) &&& 31)) 6) 0 0 0 S)) else (g_decide (lowA (v >>> ((7 : Int32) &&& 31)) 6) 0 0 0 S))) else (if v >>> ((5 : Int32) &&& 31) &&& 3 ≤ 0 then g_vote (lowA (v >>> ((7 : Int32) &&& 31)) 6) (lowA (v >>> ((10 : Int32) &&& 31)) 9) 0 0 S else g_vote (lowA (v >>> ((7 : Int32) &&& 31)) 6) (lowA (v >>> ((10 : Int32) &&& 31)) 9) 1 0 S)) else (g_petition (lowA (v >>> ((6 : Int32) &&& 31)) 8) (lowA (v >>> ((9 : Int32) &&& 31)) 2) (now + (30 : Int32) + lowA (v >>> ((8 : Int32) &&& 31)) 10) (wordA (v >>> ((4 : Int32) &&& 31)) false) S))) else (if lowA v 64 = 0 then (if v &&& 1 = 0 then g_feature 5 (((100 : Int32) * lowA (v >>> ((5 : Int32) &&& 31)) 40 + lowA (v >>> ((7 : Int32) &&& 31)) 40) / 100) (((100 : Int32) * lowA (v >>> ((5 : Int32) &&& 31)) 40 + lowA (v >>> ((7 : Int32) &&& 31)) 40) - ((100 : Int32) * lowA (v >>> ((5 : Int32) &&& 31)) 40 + lowA (v >>> ((7 : Int32) &&& 31)) 40) / 100 * 100) 0 S else g_feature (lowA (v >>> ((6 : Int32) &&& 31)) 6) (((100 : Int32) * lowA (v >>> ((5 : Int32) &&& 31)) 40 + lowA (v >>> ((7 : Int32) &&& 31)) 40) / 100) (((100 : Int32) * lowA (v >>> ((5 : Int32) &&& 31)) 40 + lowA (v >>> ((7 : Int32) &&& 31)) 40) - ((100 : Int32) * lowA (v >>> ((5 : Int32) &&& 31)) 40 + lowA (v >>> ((7 : Int32) &&& 31)) 40) / 100 * 100) 0 S) else (if 4 ≤ lowA v 64 then (if 8 ≤ lowA v 64 then (if lowA v 64 = 8 then (g_end (lowA (v >>> ((6 : Int32) &&& 31)) 8) (lowA (v >>> ((10 : Int32) &&& 31)) 5 - (1 : Int32)) (whenE now v) 0 S) else (if 20 ≤ lowA v 64 then (if 27 ≤ lowA v 64 then (if 29 ≤ lowA v 64 then (g_reading 0 ((100 : Int32) * lowA (v >>> ((5 : Int32) &&& 31)) 40 + lowA (v >>> ((7 : Int32) &&& 31)) 40) 0 (wordA (v >>> ((4 : Int32) &&& 31)) false) S) else (g_except (lowA (v >>> ((6 : Int32) &&& 31)) 8) (lowA (v >>> ((9 : Int32) &&& 31)) 2) (whenE now v) 0 S)) else (g_law (lowA (v >>> ((9 : Int32) &&& 31)) 2) (whenE now v) ((1 : Int32) + lowA (v >>> ((6 : Int32) &&& 31)) 4 + (100 : Int32) * lowA (v >>> ((10 : Int32) &&& 31)) 5 + (10000 : Int32) * ((v >>> ((13 : Int32) &&& 31) &&& 1) * lowA (v >>> ((10 : Int32) &&& 31)) 5)) 0 S)) else (g_name (lowA (v >>> ((6 : Int32) &&& 31)) 8) (lowA (v >>> ((9 : Int32) &&& 31)) 2) (whenE now v) (wordA (v >>> ((4 : Int32) &&& 31)) false) S))) else (g_part (lowA (v >>> ((6 : Int32) &&& 31)) 8) (lowA (v >>> ((10 : Int32) &&& 31)) 4 - (1 : Int32)) (whenE now v) 0 S)) else (g_move (lowA (v >>> ((6 : Int32) &&& 31)) 8) ((100 : Int32) * lowA (v >>> ((5 : Int32) &&& 31)) 40 + lowA (v >>> ((7 : Int32) &&& 31)) 40) (whenE now v) 0 S)))
def actO (now v : Int32) (S : Ms) : Int64 × Ms := if 30 ≤ lowA v 64 then (if 52 ≤ lowA v 64 then (if 54 ≤ lowA v 64 then (if lowA v 64 = 54 then (if v >>> ((5 : Int32) &&& 31) &&& 1 = 0 then g_write (lowA (v >>> ((6 : Int32) &&& 31)) 7 - (1 : Int32)) 0 0 (wordA (v >>> ((4 : Int32) &&& 31)) true) S else g_back (lowA (v >>> ((6 : Int32) &&& 31)) 7 - (1 : Int32)) 0 0 (wordA (v >>> ((4 : Int32) &&& 31)) true) S) else (if lowA v 64 = 55 then (g_find 0 (lowA (v >>> ((5 : Int32) &&& 31)) 11000) (lowA (v >>> ((6 : Int32) &&& 31)) 8 - (3 : Int32)) (wordA (v >>> ((4 : Int32) &&& 31)) true) S) else (if 58 ≤ lowA v 64 then (if lowA v 64 = 58 then (g_order (lowA (v >>> ((6 : Int32) &&& 31)) 12 - (1 : Int32)) 0 0 0 S) else (if lowA v 64 = 59 then (g_budget (lowA (v >>> ((6 : Int32) &&& 31)) 16) 0 0 0 S) else ((0, S)))) else (g_pull (lowA (v >>> ((6 : Int32) &&& 31)) 7 - (1 : Int32)) 0 0 0 S)))) else (g_table (lowA (v >>> ((6 : Int32) &&& 31)) 7 - (1 : Int32)) ((0 : Int32) + lowA (v >>> ((9 : Int32) &&& 31)) 30) ((1 : Int32) + lowA (v >>> ((11 : Int32) &&& 31)) 30) 0 S)) else (if 33 ≤ lowA v 64 then (if 42 ≤ lowA v 64 then (if lowA v 64 = 42 then (g_protest (lowA (v >>> ((7 : Int32) &&& 31)) 20 - (2 : Int32)) (lowA (v >>> ((10 : Int32) &&& 31)) 10) 0 0 S) else (if 48 ≤ lowA v 64 then (if 50 ≤ lowA v 64 then (if lowA v 64 = 50 then (g_census (lowA (v >>> ((6 : Int32) &&& 31)) 12 - (1 : Int32)) (lowA (v >>> ((9 : Int32) &&& 31)) 6 - (1 : Int32)) (lowA (v >>> ((11 : Int32) &&& 31)) 140) 0 S) else (g_dispute (lowA (v >>> ((6 : Int32) &&& 31)) 12 - (1 : Int32)) (lowA (v >>> ((9 : Int32) &&& 31)) 6 - (1 : Int32)) (lowA (v >>> ((11 : Int32) &&& 31)) 6) 0 S)) else (g_appeal (lowA (v >>> ((7 : Int32) &&& 31)) 20 - (2 : Int32)) 0 0 0 S)) else (g_decide (lowA (v >>> ((7 : Int32) &&& 31)) 20 - (2 : Int32)) 0 0 0 S))) else (if v >>> ((5 : Int32) &&& 31) &&& 3 ≤ 0 then g_vote (lowA (v >>> ((7 : Int32) &&& 31)) 20 - (2 : Int32)) (lowA (v >>> ((10 : Int32) &&& 31)) 11) 0 0 S else g_vote (lowA (v >>> ((7 : Int32) &&& 31)) 20 - (2 : Int32)) (lowA (v >>> ((10 : Int32) &&& 31)) 11) 1 0 S)) else (g_petition (lowA (v >>> ((6 : Int32) &&& 31)) 12 - (1 : Int32)) (lowA (v >>> ((9 : Int32) &&& 31)) 6 - (1 : Int32)) (now + (0 : Int32) + lowA (v >>> ((8 : Int32) &&& 31)) 60) (wordA (v >>> ((4 : Int32) &&& 31)) true) S))) else (if lowA v 64 = 0 then (g_feature (lowA (v >>> ((6 : Int32) &&& 31)) 8 - (1 : Int32)) ((lowA (v >>> ((5 : Int32) &&& 31)) 11000) / 100) ((lowA (v >>> ((5 : Int32) &&& 31)) 11000) - (lowA (v >>> ((5 : Int32) &&& 31)) 11000) / 100 * 100) 0 S) else (if 4 ≤ lowA v 64 then (if 8 ≤ lowA v 64 then (if lowA v 64 = 8 then (g_end (lowA (v >>> ((6 : Int32) &&& 31)) 12 - (1 : Int32)) (lowA (v >>> ((10 : Int32) &&& 31)) 5 - (1 : Int32)) (now + lowA (v >>> ((8 : Int32) &&& 31)) 60 - (20 : Int32)) 0 S) else (if 20 ≤ lowA v 64 then (if 27 ≤ lowA v 64 then (if 29 ≤ lowA v 64 then (g_reading 0 (lowA (v >>> ((5 : Int32) &&& 31)) 11000) 0 (wordA (v >>> ((4 : Int32) &&& 31)) true) S) else (g_except (lowA (v >>> ((6 : Int32) &&& 31)) 12 - (1 : Int32)) (lowA (v >>> ((9 : Int32) &&& 31)) 6 - (1 : Int32)) (now + lowA (v >>> ((8 : Int32) &&& 31)) 60 - (20 : Int32)) 0 S)) else (g_law (lowA (v >>> ((9 : Int32) &&& 31)) 6 - (1 : Int32)) (now + lowA (v >>> ((8 : Int32) &&& 31)) 60 - (20 : Int32)) (lowA (v >>> ((4 : Int32) &&& 31)) 400000) 0 S)) else (g_name (lowA (v >>> ((6 : Int32) &&& 31)) 12 - (1 : Int32)) (lowA (v >>> ((9 : Int32) &&& 31)) 6 - (1 : Int32)) (now + lowA (v >>> ((8 : Int32) &&& 31)) 60 - (20 : Int32)) (wordA (v >>> ((4 : Int32) &&& 31)) true) S))) else (g_part (lowA (v >>> ((6 : Int32) &&& 31)) 12 - (1 : Int32)) (lowA (v >>> ((10 : Int32) &&& 31)) 12 - (1 : Int32)) (now + lowA (v >>> ((8 : Int32) &&& 31)) 60 - (20 : Int32)) 0 S)) else (g_move (lowA (v >>> ((6 : Int32) &&& 31)) 12 - (1 : Int32)) (lowA (v >>> ((5 : Int32) &&& 31)) 11000) (now + lowA (v >>> ((8 : Int32) &&& 31)) 60 - (20 : Int32)) 0 S)))
def actF (now v : Int32) (S : Ms) : Int64 × Ms := if v >>> ((18 : Int32) &&& 31) &&& 7 = 7 then actO now v S else actE now v S
theorem act_to {x : Nat} {M M1 : Mm} {q q' : Int64 × Ms} (e : q' = q) (hg : agr TC M M1) (hB : ∃ B', RX B' x q.2 M1) : DP x M q' (some (.long q.1)) M1 := by
  subst e; exact ⟨rfl, hg, hB⟩
set_option maxHeartbeats 4000000 in
set_option maxRecDepth 100000 in
theorem c_act (E : Ev) {B : Nat → Nat → Nat} {x : Nat} {S : Ms} (M : Mm) (hX : RX B x S M) (hV : INV S) (now v : Int32) : CT E yL_act cL_act 11 (some .long) 13 16 500 [.ref x, .int now, .int v] M (DP x M (actF now v S)) noX := by
  refine CT.of rfl (Nat.le_of_ble_eq_true rfl) (fun X g hrt hno hE hN hR hI => ?_)
  subst hE
  have tailE : ∀ (wv : Int32) (hw : wv = whenE now v) (hodd : ¬ v >>> ((18 : Int32) &&& 31) &&& 7 = 7), Z X M 0 0 135 [(0, .ref x), (1, .int now), (2, .int v), (3, .int 0), (4, .int (lowA v 64)), (5, .int (lowA (v >>> ((6 : Int32) &&& 31)) 8)), (6, .int (lowA (v >>> ((9 : Int32) &&& 31)) 2)), (8, .int wv)] [] := by
    intro wv hw hodd
    subst hw
    refine z_iload_n g dL_act_135 rfl ?_
    refine z_if_eq (tgt := 151) g dL_act_136 (by decide) (fun _ => ?_) (fun c_136 => absurd c_136 (by decide))
    refine z_bipush (v := 100) g dL_act_151 (by decide) ?_
    refine z_iload_n g dL_act_153 rfl ?_
    refine z_iconst (v := 5) g dL_act_154 (by decide) ?_
    refine z_ishr g dL_act_155 ?_
    refine z_bipush (v := 40) g dL_act_156 (by decide) ?_
    refine z_callS g _ _ cs_L_140 (c_low _ M _ _ (by decide)) rfl (by rw [hR]; decide) (by rw [hR]; decide) (by rw [hR]; decide) (Nat.le_of_ble_eq_true rfl) rfl dL_act_158 (fun _ _ h => False.elim h) (fun r_158 M_158 h_158 => ?_)
    obtain ⟨rfl, rfl⟩ := h_158
    refine z_imul g dL_act_161 ?_
    refine z_iload_n g dL_act_162 rfl ?_
    refine z_bipush (v := 7) g dL_act_163 (by decide) ?_
    refine z_ishr g dL_act_165 ?_
    refine z_bipush (v := 40) g dL_act_166 (by decide) ?_
    refine z_callS g _ _ cs_L_140 (c_low _ M _ _ (by decide)) rfl (by rw [hR]; decide) (by rw [hR]; decide) (by rw [hR]; decide) (Nat.le_of_ble_eq_true rfl) rfl dL_act_168 (fun _ _ h => False.elim h) (fun r_168 M_168 h_168 => ?_)
    obtain ⟨rfl, rfl⟩ := h_168
    refine z_iadd g dL_act_171 ?_
    refine z_istore g dL_act_172 (by rw [hN]; decide) ?_
    refine z_iload g dL_act_174 rfl ?_
    refine z_bipush (v := 30) g dL_act_176 (by decide) ?_
    refine z_icmp_ge (tgt := 479) g dL_act_178 (by decide) (fun c_178 => ?_) (fun c_178 => ?_)
    · refine z_iload g dL_act_479 rfl ?_
      refine z_bipush (v := 52) g dL_act_481 (by decide) ?_
      refine z_icmp_ge (tgt := 772) g dL_act_483 (by decide) (fun c_483 => ?_) (fun c_483 => ?_)
      · refine z_iload_n g dL_act_772 rfl ?_
        refine z_if_eq (tgt := 790) g dL_act_773 (by decide) (fun _ => ?_) (fun c_773 => absurd c_773 (by decide))
        refine z_iload_n g dL_act_790 rfl ?_
        refine z_bipush (v := 6) g dL_act_791 (by decide) ?_
        refine z_ishr g dL_act_793 ?_
        refine z_iconst (v := 4) g dL_act_794 (by decide) ?_
        refine z_callS g _ _ cs_L_140 (c_low _ M _ _ (by decide)) rfl (by rw [hR]; decide) (by rw [hR]; decide) (by rw [hR]; decide) (Nat.le_of_ble_eq_true rfl) rfl dL_act_795 (fun _ _ h => False.elim h) (fun r_795 M_795 h_795 => ?_)
        obtain ⟨rfl, rfl⟩ := h_795
        refine z_istore g dL_act_798 (by rw [hN]; decide) ?_
        refine z_iload g dL_act_800 rfl ?_
        refine z_bipush (v := 54) g dL_act_802 (by decide) ?_
        refine z_icmp_ge (tgt := 866) g dL_act_804 (by decide) (fun c_804 => ?_) (fun c_804 => ?_)
        · refine z_iload g dL_act_866 rfl ?_
          refine z_bipush (v := 54) g dL_act_868 (by decide) ?_
          refine z_icmp_ne (tgt := 899) g dL_act_870 (by decide) (fun c_870 => ?_) (fun c_870 => ?_)
          · refine z_iload g dL_act_899 rfl ?_
            refine z_bipush (v := 55) g dL_act_901 (by decide) ?_
            refine z_icmp_ne (tgt := 951) g dL_act_903 (by decide) (fun c_903 => ?_) (fun c_903 => ?_)
            · refine z_iload g dL_act_951 rfl ?_
              refine z_bipush (v := 58) g dL_act_953 (by decide) ?_
              refine z_icmp_ge (tgt := 972) g dL_act_955 (by decide) (fun c_955 => ?_) (fun c_955 => ?_)
              · refine z_iload g dL_act_972 rfl ?_
                refine z_bipush (v := 58) g dL_act_974 (by decide) ?_
                refine z_icmp_ne (tgt := 993) g dL_act_976 (by decide) (fun c_976 => ?_) (fun c_976 => ?_)
                · refine z_iload g dL_act_993 rfl ?_
                  refine z_bipush (v := 59) g dL_act_995 (by decide) ?_
                  refine z_icmp_ne (tgt := 1029) g dL_act_997 (by decide) (fun c_997 => ?_) (fun c_997 => ?_)
                  · refine z_lconst (v := 0) g dL_act_1029 (by decide) ?_
                    exact z_lret g hrt (by decide) (by decide) dL_act_1030 ⟨by rw [show actF now v S = (0, S) from by unfold actF; rw [if_neg hodd]; unfold actE; rw [if_pos c_178, if_pos c_483, if_pos c_804, if_neg c_870, if_neg c_903, if_pos c_955, if_neg c_976, if_neg c_997]], agr.rf, B, by rw [show actF now v S = (0, S) from by unfold actF; rw [if_neg hodd]; unfold actE; rw [if_pos c_178, if_pos c_483, if_pos c_804, if_neg c_870, if_neg c_903, if_pos c_955, if_neg c_976, if_neg c_997]]; exact hX⟩
                  · refine z_aload_n g dL_act_1000 rfl ?_
                    refine z_bipush (v := 29) g dL_act_1001 (by decide) ?_
                    refine z_iload_n g dL_act_1003 rfl ?_
                    refine z_bipush (v := 6) g dL_act_1004 (by decide) ?_
                    refine z_ishr g dL_act_1006 ?_
                    refine z_iload_n g dL_act_1007 rfl ?_
                    refine z_if_eq (tgt := 1016) g dL_act_1008 (by decide) (fun _ => ?_) (fun c_1008 => absurd c_1008 (by decide))
                    refine z_iconst (v := 4) g dL_act_1016 (by decide) ?_
                    refine z_callS g _ _ cs_L_140 (c_low _ M _ _ (by decide)) rfl (by rw [hR]; decide) (by rw [hR]; decide) (by rw [hR]; decide) (Nat.le_of_ble_eq_true rfl) rfl dL_act_1017 (fun _ _ h => False.elim h) (fun r_1017 M_1017 h_1017 => ?_)
                    obtain ⟨rfl, rfl⟩ := h_1017
                    refine z_iconst (v := 0) g dL_act_1020 (by decide) ?_
                    refine z_iconst (v := 0) g dL_act_1021 (by decide) ?_
                    refine z_lconst (v := 0) g dL_act_1022 (by decide) ?_
                    refine z_callSH g _ _ csh_L_does (e_budget _ M hX hV _ _ _ _) rfl (by rw [hR]; decide) (by rw [hR]; decide) (by rw [hR]; decide) (Nat.le_of_ble_eq_true rfl) rfl dL_act_1023 (fun _ _ h => False.elim h) (fun r_9 M1 h_9 => ?_)
                    obtain ⟨rfl, hg, hB⟩ := h_9
                    refine z_goto (tgt := 1030) g dL_act_1026 (by decide) ?_
                    exact z_lret g hrt (by decide) (by decide) dL_act_1030 (act_to (by unfold actF; rw [if_neg hodd]; unfold actE; rw [if_pos c_178, if_pos c_483, if_pos c_804, if_neg c_870, if_neg c_903, if_pos c_955, if_neg c_976, if_pos c_997]) hg hB)
                · refine z_aload_n g dL_act_979 rfl ?_
                  refine z_bipush (v := 28) g dL_act_980 (by decide) ?_
                  refine z_iload g dL_act_982 rfl ?_
                  refine z_iconst (v := 0) g dL_act_984 (by decide) ?_
                  refine z_iconst (v := 0) g dL_act_985 (by decide) ?_
                  refine z_lconst (v := 0) g dL_act_986 (by decide) ?_
                  refine z_callSH g _ _ csh_L_does (e_order _ M hX hV _ _ _ _) rfl (by rw [hR]; decide) (by rw [hR]; decide) (by rw [hR]; decide) (Nat.le_of_ble_eq_true rfl) rfl dL_act_987 (fun _ _ h => False.elim h) (fun r_9 M1 h_9 => ?_)
                  obtain ⟨rfl, hg, hB⟩ := h_9
                  refine z_goto (tgt := 1030) g dL_act_990 (by decide) ?_
                  exact z_lret g hrt (by decide) (by decide) dL_act_1030 (act_to (by unfold actF; rw [if_neg hodd]; unfold actE; rw [if_pos c_178, if_pos c_483, if_pos c_804, if_neg c_870, if_neg c_903, if_pos c_955, if_pos c_976]) hg hB)
              · refine z_aload_n g dL_act_958 rfl ?_
                refine z_bipush (v := 26) g dL_act_959 (by decide) ?_
                refine z_iload g dL_act_961 rfl ?_
                refine z_iconst (v := 0) g dL_act_963 (by decide) ?_
                refine z_iconst (v := 0) g dL_act_964 (by decide) ?_
                refine z_lconst (v := 0) g dL_act_965 (by decide) ?_
                refine z_callSH g _ _ csh_L_does (e_pull _ M hX hV _ _ _ _) rfl (by rw [hR]; decide) (by rw [hR]; decide) (by rw [hR]; decide) (Nat.le_of_ble_eq_true rfl) rfl dL_act_966 (fun _ _ h => False.elim h) (fun r_9 M1 h_9 => ?_)
                obtain ⟨rfl, hg, hB⟩ := h_9
                refine z_goto (tgt := 1030) g dL_act_969 (by decide) ?_
                exact z_lret g hrt (by decide) (by decide) dL_act_1030 (act_to (by unfold actF; rw [if_neg hodd]; unfold actE; rw [if_pos c_178, if_pos c_483, if_pos c_804, if_neg c_870, if_neg c_903, if_neg c_955]) hg hB)
            · refine z_aload_n g dL_act_906 rfl ?_
              refine z_bipush (v := 25) g dL_act_907 (by decide) ?_
              refine z_iconst (v := 0) g dL_act_909 (by decide) ?_
              refine z_iload g dL_act_910 rfl ?_
              refine z_iload_n g dL_act_912 rfl ?_
              refine z_if_eq (tgt := 930) g dL_act_913 (by decide) (fun _ => ?_) (fun c_913 => absurd c_913 (by decide))
              refine z_iload_n g dL_act_930 rfl ?_
              refine z_bipush (v := 12) g dL_act_931 (by decide) ?_
              refine z_ishr g dL_act_933 ?_
              refine z_iconst (v := 3) g dL_act_934 (by decide) ?_
              refine z_callS g _ _ cs_L_140 (c_low _ M _ _ (by decide)) rfl (by rw [hR]; decide) (by rw [hR]; decide) (by rw [hR]; decide) (Nat.le_of_ble_eq_true rfl) rfl dL_act_935 (fun _ _ h => False.elim h) (fun r_935 M_935 h_935 => ?_)
              obtain ⟨rfl, rfl⟩ := h_935
              refine z_iload_n g dL_act_938 rfl ?_
              refine z_iconst (v := 4) g dL_act_939 (by decide) ?_
              refine z_ishr g dL_act_940 ?_
              refine z_iload_n g dL_act_941 rfl ?_
              refine z_callS g _ _ cs_L_148 (c_word0 _ M _) rfl (by rw [hR]; decide) (by rw [hR]; decide) (by rw [hR]; decide) (Nat.le_of_ble_eq_true rfl) rfl dL_act_942 (fun _ _ h => False.elim h) (fun r_942 M_942 h_942 => ?_)
              obtain ⟨rfl, rfl⟩ := h_942
              refine z_callSH g _ _ csh_L_does (e_find _ M hX hV _ _ _ _) rfl (by rw [hR]; decide) (by rw [hR]; decide) (by rw [hR]; decide) (Nat.le_of_ble_eq_true rfl) rfl dL_act_945 (fun _ _ h => False.elim h) (fun r_9 M1 h_9 => ?_)
              obtain ⟨rfl, hg, hB⟩ := h_9
              refine z_goto (tgt := 1030) g dL_act_948 (by decide) ?_
              exact z_lret g hrt (by decide) (by decide) dL_act_1030 (act_to (by unfold actF; rw [if_neg hodd]; unfold actE; rw [if_pos c_178, if_pos c_483, if_pos c_804, if_neg c_870, if_pos c_903]) hg hB)
          · refine z_aload_n g dL_act_873 rfl ?_
            refine z_bipush (v := 20) g dL_act_874 (by decide) ?_
            refine z_iload_n g dL_act_876 rfl ?_
            refine z_iconst (v := 5) g dL_act_877 (by decide) ?_
            refine z_ishr g dL_act_878 ?_
            refine z_iconst (v := 1) g dL_act_879 (by decide) ?_
            refine z_iand g dL_act_880 ?_
            refine z_iadd g dL_act_881 ?_
            refine z_iload g dL_act_882 rfl ?_
            refine z_iconst (v := 0) g dL_act_884 (by decide) ?_
            refine z_iconst (v := 0) g dL_act_885 (by decide) ?_
            refine z_iload_n g dL_act_886 rfl ?_
            refine z_iconst (v := 4) g dL_act_887 (by decide) ?_
            refine z_ishr g dL_act_888 ?_
            refine z_iload_n g dL_act_889 rfl ?_
            refine z_callS g _ _ cs_L_148 (c_word0 _ M _) rfl (by rw [hR]; decide) (by rw [hR]; decide) (by rw [hR]; decide) (Nat.le_of_ble_eq_true rfl) rfl dL_act_890 (fun _ _ h => False.elim h) (fun r_890 M_890 h_890 => ?_)
            obtain ⟨rfl, rfl⟩ := h_890
            by_cases c_893 : v >>> ((5 : Int32) &&& 31) &&& 1 = 0
            · rw [c_893, show (20 : Int32) + 0 = 20 from rfl]
              refine z_callSH g _ _ csh_L_does (e_write _ M hX hV _ _ _ _) rfl (by rw [hR]; decide) (by rw [hR]; decide) (by rw [hR]; decide) (Nat.le_of_ble_eq_true rfl) rfl dL_act_893 (fun _ _ h => False.elim h) (fun r_9 M1 h_9 => ?_)
              obtain ⟨rfl, hg, hB⟩ := h_9
              refine z_goto (tgt := 1030) g dL_act_896 (by decide) ?_
              exact z_lret g hrt (by decide) (by decide) dL_act_1030 (act_to (by unfold actF; rw [if_neg hodd]; unfold actE; rw [if_pos c_178, if_pos c_483, if_pos c_804, if_pos c_870, if_pos c_893]) hg hB)
            · rw [show v >>> ((5 : Int32) &&& 31) &&& 1 = 1 from by
                obtain ⟨j, hj, e⟩ := pk_andE (v >>> ((5 : Int32) &&& 31)) (m := 1) 1 (by decide)
                rcases (show j = 0 ∨ j = 1 by omega) with rfl | rfl
                · exact absurd e c_893
                · exact e, show (20 : Int32) + 1 = 21 from rfl]
              refine z_callSH g _ _ csh_L_does (e_back _ M hX hV _ _ _ _) rfl (by rw [hR]; decide) (by rw [hR]; decide) (by rw [hR]; decide) (Nat.le_of_ble_eq_true rfl) rfl dL_act_893 (fun _ _ h => False.elim h) (fun r_9 M1 h_9 => ?_)
              obtain ⟨rfl, hg, hB⟩ := h_9
              refine z_goto (tgt := 1030) g dL_act_896 (by decide) ?_
              exact z_lret g hrt (by decide) (by decide) dL_act_1030 (act_to (by unfold actF; rw [if_neg hodd]; unfold actE; rw [if_pos c_178, if_pos c_483, if_pos c_804, if_pos c_870, if_neg c_893]) hg hB)
        · refine z_aload_n g dL_act_807 rfl ?_
          refine z_bipush (v := 19) g dL_act_808 (by decide) ?_
          refine z_iload g dL_act_810 rfl ?_
          refine z_iload_n g dL_act_812 rfl ?_
          refine z_if_eq (tgt := 820) g dL_act_813 (by decide) (fun _ => ?_) (fun c_813 => absurd c_813 (by decide))
          refine z_iconst (v := 1) g dL_act_820 (by decide) ?_
          refine z_iload_n g dL_act_821 rfl ?_
          refine z_bipush (v := 9) g dL_act_822 (by decide) ?_
          refine z_ishr g dL_act_824 ?_
          refine z_iload_n g dL_act_825 rfl ?_
          refine z_if_eq (tgt := 834) g dL_act_826 (by decide) (fun _ => ?_) (fun c_826 => absurd c_826 (by decide))
          refine z_iconst (v := 5) g dL_act_834 (by decide) ?_
          refine z_callS g _ _ cs_L_140 (c_low _ M _ _ (by decide)) rfl (by rw [hR]; decide) (by rw [hR]; decide) (by rw [hR]; decide) (Nat.le_of_ble_eq_true rfl) rfl dL_act_835 (fun _ _ h => False.elim h) (fun r_835 M_835 h_835 => ?_)
          obtain ⟨rfl, rfl⟩ := h_835
          refine z_iadd g dL_act_838 ?_
          refine z_iconst (v := 1) g dL_act_839 (by decide) ?_
          refine z_iload_n g dL_act_840 rfl ?_
          refine z_bipush (v := 11) g dL_act_841 (by decide) ?_
          refine z_ishr g dL_act_843 ?_
          refine z_iload_n g dL_act_844 rfl ?_
          refine z_if_eq (tgt := 853) g dL_act_845 (by decide) (fun _ => ?_) (fun c_845 => absurd c_845 (by decide))
          refine z_bipush (v := 6) g dL_act_853 (by decide) ?_
          refine z_callS g _ _ cs_L_140 (c_low _ M _ _ (by decide)) rfl (by rw [hR]; decide) (by rw [hR]; decide) (by rw [hR]; decide) (Nat.le_of_ble_eq_true rfl) rfl dL_act_855 (fun _ _ h => False.elim h) (fun r_855 M_855 h_855 => ?_)
          obtain ⟨rfl, rfl⟩ := h_855
          refine z_iadd g dL_act_858 ?_
          refine z_lconst (v := 0) g dL_act_859 (by decide) ?_
          refine z_callSH g _ _ csh_L_does (e_table _ M hX hV _ _ _ _) rfl (by rw [hR]; decide) (by rw [hR]; decide) (by rw [hR]; decide) (Nat.le_of_ble_eq_true rfl) rfl dL_act_860 (fun _ _ h => False.elim h) (fun r_9 M1 h_9 => ?_)
          obtain ⟨rfl, hg, hB⟩ := h_9
          refine z_goto (tgt := 1030) g dL_act_863 (by decide) ?_
          exact z_lret g hrt (by decide) (by decide) dL_act_1030 (act_to (by unfold actF; rw [if_neg hodd]; unfold actE; rw [if_pos c_178, if_pos c_483, if_neg c_804]) hg hB)
      · refine z_iload_n g dL_act_486 rfl ?_
        refine z_if_eq (tgt := 504) g dL_act_487 (by decide) (fun _ => ?_) (fun c_487 => absurd c_487 (by decide))
        refine z_iload_n g dL_act_504 rfl ?_
        refine z_bipush (v := 7) g dL_act_505 (by decide) ?_
        refine z_ishr g dL_act_507 ?_
        refine z_bipush (v := 6) g dL_act_508 (by decide) ?_
        refine z_callS g _ _ cs_L_140 (c_low _ M _ _ (by decide)) rfl (by rw [hR]; decide) (by rw [hR]; decide) (by rw [hR]; decide) (Nat.le_of_ble_eq_true rfl) rfl dL_act_510 (fun _ _ h => False.elim h) (fun r_510 M_510 h_510 => ?_)
        obtain ⟨rfl, rfl⟩ := h_510
        refine z_istore g dL_act_513 (by rw [hN]; decide) ?_
        refine z_iload g dL_act_515 rfl ?_
        refine z_bipush (v := 33) g dL_act_517 (by decide) ?_
        refine z_icmp_ge (tgt := 573) g dL_act_519 (by decide) (fun c_519 => ?_) (fun c_519 => ?_)
        · refine z_iload g dL_act_573 rfl ?_
          refine z_bipush (v := 42) g dL_act_575 (by decide) ?_
          refine z_icmp_ge (tgt := 623) g dL_act_577 (by decide) (fun c_577 => ?_) (fun c_577 => ?_)
          · refine z_iload g dL_act_623 rfl ?_
            refine z_bipush (v := 42) g dL_act_625 (by decide) ?_
            refine z_icmp_ne (tgt := 661) g dL_act_627 (by decide) (fun c_627 => ?_) (fun c_627 => ?_)
            · refine z_iload g dL_act_661 rfl ?_
              refine z_bipush (v := 48) g dL_act_663 (by decide) ?_
              refine z_icmp_ge (tgt := 682) g dL_act_665 (by decide) (fun c_665 => ?_) (fun c_665 => ?_)
              · refine z_iload g dL_act_682 rfl ?_
                refine z_bipush (v := 50) g dL_act_684 (by decide) ?_
                refine z_icmp_ge (tgt := 703) g dL_act_686 (by decide) (fun c_686 => ?_) (fun c_686 => ?_)
                · refine z_iload g dL_act_703 rfl ?_
                  refine z_bipush (v := 50) g dL_act_705 (by decide) ?_
                  refine z_icmp_ne (tgt := 743) g dL_act_707 (by decide) (fun c_707 => ?_) (fun c_707 => ?_)
                  · refine z_aload_n g dL_act_743 rfl ?_
                    refine z_bipush (v := 16) g dL_act_744 (by decide) ?_
                    refine z_iload g dL_act_746 rfl ?_
                    refine z_iload g dL_act_748 rfl ?_
                    refine z_iload_n g dL_act_750 rfl ?_
                    refine z_bipush (v := 11) g dL_act_751 (by decide) ?_
                    refine z_ishr g dL_act_753 ?_
                    refine z_iload_n g dL_act_754 rfl ?_
                    refine z_if_eq (tgt := 763) g dL_act_755 (by decide) (fun _ => ?_) (fun c_755 => absurd c_755 (by decide))
                    refine z_iconst (v := 4) g dL_act_763 (by decide) ?_
                    refine z_callS g _ _ cs_L_140 (c_low _ M _ _ (by decide)) rfl (by rw [hR]; decide) (by rw [hR]; decide) (by rw [hR]; decide) (Nat.le_of_ble_eq_true rfl) rfl dL_act_764 (fun _ _ h => False.elim h) (fun r_764 M_764 h_764 => ?_)
                    obtain ⟨rfl, rfl⟩ := h_764
                    refine z_lconst (v := 0) g dL_act_767 (by decide) ?_
                    refine z_callSH g _ _ csh_L_does (e_dispute _ M hX hV _ _ _ _) rfl (by rw [hR]; decide) (by rw [hR]; decide) (by rw [hR]; decide) (Nat.le_of_ble_eq_true rfl) rfl dL_act_768 (fun _ _ h => False.elim h) (fun r_9 M1 h_9 => ?_)
                    obtain ⟨rfl, hg, hB⟩ := h_9
                    exact z_lret g hrt (by decide) (by decide) dL_act_771 (act_to (by unfold actF; rw [if_neg hodd]; unfold actE; rw [if_pos c_178, if_neg c_483, if_pos c_519, if_pos c_577, if_neg c_627, if_pos c_665, if_pos c_686, if_neg c_707]) hg hB)
                  · refine z_aload_n g dL_act_710 rfl ?_
                    refine z_bipush (v := 15) g dL_act_711 (by decide) ?_
                    refine z_iload g dL_act_713 rfl ?_
                    refine z_iload g dL_act_715 rfl ?_
                    refine z_iload_n g dL_act_717 rfl ?_
                    refine z_bipush (v := 11) g dL_act_718 (by decide) ?_
                    refine z_ishr g dL_act_720 ?_
                    refine z_iload_n g dL_act_721 rfl ?_
                    refine z_if_eq (tgt := 731) g dL_act_722 (by decide) (fun _ => ?_) (fun c_722 => absurd c_722 (by decide))
                    refine z_bipush (v := 60) g dL_act_731 (by decide) ?_
                    refine z_callS g _ _ cs_L_140 (c_low _ M _ _ (by decide)) rfl (by rw [hR]; decide) (by rw [hR]; decide) (by rw [hR]; decide) (Nat.le_of_ble_eq_true rfl) rfl dL_act_733 (fun _ _ h => False.elim h) (fun r_733 M_733 h_733 => ?_)
                    obtain ⟨rfl, rfl⟩ := h_733
                    refine z_lconst (v := 0) g dL_act_736 (by decide) ?_
                    refine z_callSH g _ _ csh_L_does (e_census _ M hX hV _ _ _ _) rfl (by rw [hR]; decide) (by rw [hR]; decide) (by rw [hR]; decide) (Nat.le_of_ble_eq_true rfl) rfl dL_act_737 (fun _ _ h => False.elim h) (fun r_9 M1 h_9 => ?_)
                    obtain ⟨rfl, hg, hB⟩ := h_9
                    refine z_goto (tgt := 771) g dL_act_740 (by decide) ?_
                    exact z_lret g hrt (by decide) (by decide) dL_act_771 (act_to (by unfold actF; rw [if_neg hodd]; unfold actE; rw [if_pos c_178, if_neg c_483, if_pos c_519, if_pos c_577, if_neg c_627, if_pos c_665, if_pos c_686, if_pos c_707]) hg hB)
                · refine z_aload_n g dL_act_689 rfl ?_
                  refine z_bipush (v := 13) g dL_act_690 (by decide) ?_
                  refine z_iload g dL_act_692 rfl ?_
                  refine z_iconst (v := 0) g dL_act_694 (by decide) ?_
                  refine z_iconst (v := 0) g dL_act_695 (by decide) ?_
                  refine z_lconst (v := 0) g dL_act_696 (by decide) ?_
                  refine z_callSH g _ _ csh_L_does (e_appeal _ M hX hV _ _ _ _) rfl (by rw [hR]; decide) (by rw [hR]; decide) (by rw [hR]; decide) (Nat.le_of_ble_eq_true rfl) rfl dL_act_697 (fun _ _ h => False.elim h) (fun r_9 M1 h_9 => ?_)
                  obtain ⟨rfl, hg, hB⟩ := h_9
                  refine z_goto (tgt := 771) g dL_act_700 (by decide) ?_
                  exact z_lret g hrt (by decide) (by decide) dL_act_771 (act_to (by unfold actF; rw [if_neg hodd]; unfold actE; rw [if_pos c_178, if_neg c_483, if_pos c_519, if_pos c_577, if_neg c_627, if_pos c_665, if_neg c_686]) hg hB)
              · refine z_aload_n g dL_act_668 rfl ?_
                refine z_bipush (v := 12) g dL_act_669 (by decide) ?_
                refine z_iload g dL_act_671 rfl ?_
                refine z_iconst (v := 0) g dL_act_673 (by decide) ?_
                refine z_iconst (v := 0) g dL_act_674 (by decide) ?_
                refine z_lconst (v := 0) g dL_act_675 (by decide) ?_
                refine z_callSH g _ _ csh_L_does (e_decide _ M hX hV _ _ _ _) rfl (by rw [hR]; decide) (by rw [hR]; decide) (by rw [hR]; decide) (Nat.le_of_ble_eq_true rfl) rfl dL_act_676 (fun _ _ h => False.elim h) (fun r_9 M1 h_9 => ?_)
                obtain ⟨rfl, hg, hB⟩ := h_9
                refine z_goto (tgt := 771) g dL_act_679 (by decide) ?_
                exact z_lret g hrt (by decide) (by decide) dL_act_771 (act_to (by unfold actF; rw [if_neg hodd]; unfold actE; rw [if_pos c_178, if_neg c_483, if_pos c_519, if_pos c_577, if_neg c_627, if_neg c_665]) hg hB)
            · refine z_aload_n g dL_act_630 rfl ?_
              refine z_bipush (v := 11) g dL_act_631 (by decide) ?_
              refine z_iload g dL_act_633 rfl ?_
              refine z_iload_n g dL_act_635 rfl ?_
              refine z_bipush (v := 10) g dL_act_636 (by decide) ?_
              refine z_ishr g dL_act_638 ?_
              refine z_iload_n g dL_act_639 rfl ?_
              refine z_if_eq (tgt := 648) g dL_act_640 (by decide) (fun _ => ?_) (fun c_640 => absurd c_640 (by decide))
              refine z_bipush (v := 8) g dL_act_648 (by decide) ?_
              refine z_callS g _ _ cs_L_140 (c_low _ M _ _ (by decide)) rfl (by rw [hR]; decide) (by rw [hR]; decide) (by rw [hR]; decide) (Nat.le_of_ble_eq_true rfl) rfl dL_act_650 (fun _ _ h => False.elim h) (fun r_650 M_650 h_650 => ?_)
              obtain ⟨rfl, rfl⟩ := h_650
              refine z_iconst (v := 0) g dL_act_653 (by decide) ?_
              refine z_lconst (v := 0) g dL_act_654 (by decide) ?_
              refine z_callSH g _ _ csh_L_does (e_protest _ M hX hV _ _ _ _) rfl (by rw [hR]; decide) (by rw [hR]; decide) (by rw [hR]; decide) (Nat.le_of_ble_eq_true rfl) rfl dL_act_655 (fun _ _ h => False.elim h) (fun r_9 M1 h_9 => ?_)
              obtain ⟨rfl, hg, hB⟩ := h_9
              refine z_goto (tgt := 771) g dL_act_658 (by decide) ?_
              exact z_lret g hrt (by decide) (by decide) dL_act_771 (act_to (by unfold actF; rw [if_neg hodd]; unfold actE; rw [if_pos c_178, if_neg c_483, if_pos c_519, if_pos c_577, if_pos c_627]) hg hB)
          · refine z_aload_n g dL_act_580 rfl ?_
            refine z_bipush (v := 10) g dL_act_581 (by decide) ?_
            refine z_iload g dL_act_583 rfl ?_
            refine z_iload_n g dL_act_585 rfl ?_
            refine z_bipush (v := 10) g dL_act_586 (by decide) ?_
            refine z_ishr g dL_act_588 ?_
            refine z_iload_n g dL_act_589 rfl ?_
            refine z_if_eq (tgt := 598) g dL_act_590 (by decide) (fun _ => ?_) (fun c_590 => absurd c_590 (by decide))
            refine z_bipush (v := 9) g dL_act_598 (by decide) ?_
            refine z_callS g _ _ cs_L_140 (c_low _ M _ _ (by decide)) rfl (by rw [hR]; decide) (by rw [hR]; decide) (by rw [hR]; decide) (Nat.le_of_ble_eq_true rfl) rfl dL_act_600 (fun _ _ h => False.elim h) (fun r_600 M_600 h_600 => ?_)
            obtain ⟨rfl, rfl⟩ := h_600
            refine z_iload_n g dL_act_603 rfl ?_
            refine z_iconst (v := 5) g dL_act_604 (by decide) ?_
            refine z_ishr g dL_act_605 ?_
            refine z_iconst (v := 3) g dL_act_606 (by decide) ?_
            refine z_iand g dL_act_607 ?_
            refine z_if_le (tgt := 615) g dL_act_608 (by decide) (fun c_608 => ?_) (fun c_608 => ?_)
            · refine z_iconst (v := 0) g dL_act_615 (by decide) ?_
              refine z_lconst (v := 0) g dL_act_616 (by decide) ?_
              refine z_callSH g _ _ csh_L_does (e_vote _ M hX hV _ _ _ _) rfl (by rw [hR]; decide) (by rw [hR]; decide) (by rw [hR]; decide) (Nat.le_of_ble_eq_true rfl) rfl dL_act_617 (fun _ _ h => False.elim h) (fun r_9 M1 h_9 => ?_)
              obtain ⟨rfl, hg, hB⟩ := h_9
              refine z_goto (tgt := 771) g dL_act_620 (by decide) ?_
              exact z_lret g hrt (by decide) (by decide) dL_act_771 (act_to (by unfold actF; rw [if_neg hodd]; unfold actE; rw [if_pos c_178, if_neg c_483, if_pos c_519, if_neg c_577, if_pos c_608]) hg hB)
            · refine z_iconst (v := 1) g dL_act_611 (by decide) ?_
              refine z_goto (tgt := 616) g dL_act_612 (by decide) ?_
              refine z_lconst (v := 0) g dL_act_616 (by decide) ?_
              refine z_callSH g _ _ csh_L_does (e_vote _ M hX hV _ _ _ _) rfl (by rw [hR]; decide) (by rw [hR]; decide) (by rw [hR]; decide) (Nat.le_of_ble_eq_true rfl) rfl dL_act_617 (fun _ _ h => False.elim h) (fun r_9 M1 h_9 => ?_)
              obtain ⟨rfl, hg, hB⟩ := h_9
              refine z_goto (tgt := 771) g dL_act_620 (by decide) ?_
              exact z_lret g hrt (by decide) (by decide) dL_act_771 (act_to (by unfold actF; rw [if_neg hodd]; unfold actE; rw [if_pos c_178, if_neg c_483, if_pos c_519, if_neg c_577, if_neg c_608]) hg hB)
        · refine z_aload_n g dL_act_522 rfl ?_
          refine z_bipush (v := 9) g dL_act_523 (by decide) ?_
          refine z_iload g dL_act_525 rfl ?_
          refine z_iload g dL_act_527 rfl ?_
          refine z_iload_n g dL_act_529 rfl ?_
          refine z_iload_n g dL_act_530 rfl ?_
          refine z_if_eq (tgt := 538) g dL_act_531 (by decide) (fun _ => ?_) (fun c_531 => absurd c_531 (by decide))
          refine z_bipush (v := 30) g dL_act_538 (by decide) ?_
          refine z_iadd g dL_act_540 ?_
          refine z_iload_n g dL_act_541 rfl ?_
          refine z_bipush (v := 8) g dL_act_542 (by decide) ?_
          refine z_ishr g dL_act_544 ?_
          refine z_iload_n g dL_act_545 rfl ?_
          refine z_if_eq (tgt := 554) g dL_act_546 (by decide) (fun _ => ?_) (fun c_546 => absurd c_546 (by decide))
          refine z_bipush (v := 10) g dL_act_554 (by decide) ?_
          refine z_callS g _ _ cs_L_140 (c_low _ M _ _ (by decide)) rfl (by rw [hR]; decide) (by rw [hR]; decide) (by rw [hR]; decide) (Nat.le_of_ble_eq_true rfl) rfl dL_act_556 (fun _ _ h => False.elim h) (fun r_556 M_556 h_556 => ?_)
          obtain ⟨rfl, rfl⟩ := h_556
          refine z_iadd g dL_act_559 ?_
          refine z_iload_n g dL_act_560 rfl ?_
          refine z_iconst (v := 4) g dL_act_561 (by decide) ?_
          refine z_ishr g dL_act_562 ?_
          refine z_iload_n g dL_act_563 rfl ?_
          refine z_callS g _ _ cs_L_148 (c_word0 _ M _) rfl (by rw [hR]; decide) (by rw [hR]; decide) (by rw [hR]; decide) (Nat.le_of_ble_eq_true rfl) rfl dL_act_564 (fun _ _ h => False.elim h) (fun r_564 M_564 h_564 => ?_)
          obtain ⟨rfl, rfl⟩ := h_564
          refine z_callSH g _ _ csh_L_does (e_petition _ M hX hV _ _ _ _) rfl (by rw [hR]; decide) (by rw [hR]; decide) (by rw [hR]; decide) (Nat.le_of_ble_eq_true rfl) rfl dL_act_567 (fun _ _ h => False.elim h) (fun r_9 M1 h_9 => ?_)
          obtain ⟨rfl, hg, hB⟩ := h_9
          refine z_goto (tgt := 771) g dL_act_570 (by decide) ?_
          exact z_lret g hrt (by decide) (by decide) dL_act_771 (act_to (by unfold actF; rw [if_neg hodd]; unfold actE; rw [if_pos c_178, if_neg c_483, if_neg c_519]) hg hB)
    · refine z_iload g dL_act_181 rfl ?_
      refine z_if_ne (tgt := 242) g dL_act_183 (by decide) (fun c_183 => ?_) (fun c_183 => ?_)
      · refine z_iload g dL_act_242 rfl ?_
        refine z_iconst (v := 4) g dL_act_244 (by decide) ?_
        refine z_icmp_ge (tgt := 263) g dL_act_245 (by decide) (fun c_245 => ?_) (fun c_245 => ?_)
        · refine z_iload g dL_act_263 rfl ?_
          refine z_bipush (v := 8) g dL_act_265 (by decide) ?_
          refine z_icmp_ge (tgt := 302) g dL_act_267 (by decide) (fun c_267 => ?_) (fun c_267 => ?_)
          · refine z_iload g dL_act_302 rfl ?_
            refine z_bipush (v := 8) g dL_act_304 (by decide) ?_
            refine z_icmp_ne (tgt := 332) g dL_act_306 (by decide) (fun c_306 => ?_) (fun c_306 => ?_)
            · refine z_iload g dL_act_332 rfl ?_
              refine z_bipush (v := 20) g dL_act_334 (by decide) ?_
              refine z_icmp_ge (tgt := 360) g dL_act_336 (by decide) (fun c_336 => ?_) (fun c_336 => ?_)
              · refine z_iload g dL_act_360 rfl ?_
                refine z_bipush (v := 27) g dL_act_362 (by decide) ?_
                refine z_icmp_ge (tgt := 438) g dL_act_364 (by decide) (fun c_364 => ?_) (fun c_364 => ?_)
                · refine z_iload g dL_act_438 rfl ?_
                  refine z_bipush (v := 29) g dL_act_440 (by decide) ?_
                  refine z_icmp_ge (tgt := 461) g dL_act_442 (by decide) (fun c_442 => ?_) (fun c_442 => ?_)
                  · refine z_aload_n g dL_act_461 rfl ?_
                    refine z_bipush (v := 23) g dL_act_462 (by decide) ?_
                    refine z_iconst (v := 0) g dL_act_464 (by decide) ?_
                    refine z_iload g dL_act_465 rfl ?_
                    refine z_iconst (v := 0) g dL_act_467 (by decide) ?_
                    refine z_iload_n g dL_act_468 rfl ?_
                    refine z_iconst (v := 4) g dL_act_469 (by decide) ?_
                    refine z_ishr g dL_act_470 ?_
                    refine z_iload_n g dL_act_471 rfl ?_
                    refine z_callS g _ _ cs_L_148 (c_word0 _ M _) rfl (by rw [hR]; decide) (by rw [hR]; decide) (by rw [hR]; decide) (Nat.le_of_ble_eq_true rfl) rfl dL_act_472 (fun _ _ h => False.elim h) (fun r_472 M_472 h_472 => ?_)
                    obtain ⟨rfl, rfl⟩ := h_472
                    refine z_callSH g _ _ csh_L_does (e_reading _ M hX hV _ _ _ _) rfl (by rw [hR]; decide) (by rw [hR]; decide) (by rw [hR]; decide) (Nat.le_of_ble_eq_true rfl) rfl dL_act_475 (fun _ _ h => False.elim h) (fun r_9 M1 h_9 => ?_)
                    obtain ⟨rfl, hg, hB⟩ := h_9
                    exact z_lret g hrt (by decide) (by decide) dL_act_478 (act_to (by unfold actF; rw [if_neg hodd]; unfold actE; rw [if_neg c_178, if_neg c_183, if_pos c_245, if_pos c_267, if_neg c_306, if_pos c_336, if_pos c_364, if_pos c_442]) hg hB)
                  · refine z_aload_n g dL_act_445 rfl ?_
                    refine z_bipush (v := 7) g dL_act_446 (by decide) ?_
                    refine z_iload g dL_act_448 rfl ?_
                    refine z_iload g dL_act_450 rfl ?_
                    refine z_iload g dL_act_452 rfl ?_
                    refine z_lconst (v := 0) g dL_act_454 (by decide) ?_
                    refine z_callSH g _ _ csh_L_does (e_except _ M hX hV _ _ _ _) rfl (by rw [hR]; decide) (by rw [hR]; decide) (by rw [hR]; decide) (Nat.le_of_ble_eq_true rfl) rfl dL_act_455 (fun _ _ h => False.elim h) (fun r_9 M1 h_9 => ?_)
                    obtain ⟨rfl, hg, hB⟩ := h_9
                    refine z_goto (tgt := 478) g dL_act_458 (by decide) ?_
                    exact z_lret g hrt (by decide) (by decide) dL_act_478 (act_to (by unfold actF; rw [if_neg hodd]; unfold actE; rw [if_neg c_178, if_neg c_183, if_pos c_245, if_pos c_267, if_neg c_306, if_pos c_336, if_pos c_364, if_neg c_442]) hg hB)
                · refine z_aload_n g dL_act_367 rfl ?_
                  refine z_bipush (v := 6) g dL_act_368 (by decide) ?_
                  refine z_iload g dL_act_370 rfl ?_
                  refine z_iload g dL_act_372 rfl ?_
                  refine z_iload_n g dL_act_374 rfl ?_
                  refine z_if_eq (tgt := 389) g dL_act_375 (by decide) (fun _ => ?_) (fun c_375 => absurd c_375 (by decide))
                  refine z_iconst (v := 1) g dL_act_389 (by decide) ?_
                  refine z_iload_n g dL_act_390 rfl ?_
                  refine z_bipush (v := 6) g dL_act_391 (by decide) ?_
                  refine z_ishr g dL_act_393 ?_
                  refine z_iconst (v := 4) g dL_act_394 (by decide) ?_
                  refine z_callS g _ _ cs_L_140 (c_low _ M _ _ (by decide)) rfl (by rw [hR]; decide) (by rw [hR]; decide) (by rw [hR]; decide) (Nat.le_of_ble_eq_true rfl) rfl dL_act_395 (fun _ _ h => False.elim h) (fun r_395 M_395 h_395 => ?_)
                  obtain ⟨rfl, rfl⟩ := h_395
                  refine z_iadd g dL_act_398 ?_
                  refine z_bipush (v := 100) g dL_act_399 (by decide) ?_
                  refine z_iload_n g dL_act_401 rfl ?_
                  refine z_bipush (v := 10) g dL_act_402 (by decide) ?_
                  refine z_ishr g dL_act_404 ?_
                  refine z_iconst (v := 5) g dL_act_405 (by decide) ?_
                  refine z_callS g _ _ cs_L_140 (c_low _ M _ _ (by decide)) rfl (by rw [hR]; decide) (by rw [hR]; decide) (by rw [hR]; decide) (Nat.le_of_ble_eq_true rfl) rfl dL_act_406 (fun _ _ h => False.elim h) (fun r_406 M_406 h_406 => ?_)
                  obtain ⟨rfl, rfl⟩ := h_406
                  refine z_imul g dL_act_409 ?_
                  refine z_iadd g dL_act_410 ?_
                  refine z_sipush (v := 10000) g dL_act_411 (by decide) ?_
                  refine z_iload_n g dL_act_414 rfl ?_
                  refine z_bipush (v := 13) g dL_act_415 (by decide) ?_
                  refine z_ishr g dL_act_417 ?_
                  refine z_iconst (v := 1) g dL_act_418 (by decide) ?_
                  refine z_iand g dL_act_419 ?_
                  refine z_iload_n g dL_act_420 rfl ?_
                  refine z_bipush (v := 10) g dL_act_421 (by decide) ?_
                  refine z_ishr g dL_act_423 ?_
                  refine z_iconst (v := 5) g dL_act_424 (by decide) ?_
                  refine z_callS g _ _ cs_L_140 (c_low _ M _ _ (by decide)) rfl (by rw [hR]; decide) (by rw [hR]; decide) (by rw [hR]; decide) (Nat.le_of_ble_eq_true rfl) rfl dL_act_425 (fun _ _ h => False.elim h) (fun r_425 M_425 h_425 => ?_)
                  obtain ⟨rfl, rfl⟩ := h_425
                  refine z_imul g dL_act_428 ?_
                  refine z_imul g dL_act_429 ?_
                  refine z_iadd g dL_act_430 ?_
                  refine z_lconst (v := 0) g dL_act_431 (by decide) ?_
                  refine z_callSH g _ _ csh_L_does (e_law _ M hX hV _ _ _ _) rfl (by rw [hR]; decide) (by rw [hR]; decide) (by rw [hR]; decide) (Nat.le_of_ble_eq_true rfl) rfl dL_act_432 (fun _ _ h => False.elim h) (fun r_9 M1 h_9 => ?_)
                  obtain ⟨rfl, hg, hB⟩ := h_9
                  refine z_goto (tgt := 478) g dL_act_435 (by decide) ?_
                  exact z_lret g hrt (by decide) (by decide) dL_act_478 (act_to (by unfold actF; rw [if_neg hodd]; unfold actE; rw [if_neg c_178, if_neg c_183, if_pos c_245, if_pos c_267, if_neg c_306, if_pos c_336, if_neg c_364]) hg hB)
              · refine z_aload_n g dL_act_339 rfl ?_
                refine z_iconst (v := 5) g dL_act_340 (by decide) ?_
                refine z_iload g dL_act_341 rfl ?_
                refine z_iload g dL_act_343 rfl ?_
                refine z_iload g dL_act_345 rfl ?_
                refine z_iload_n g dL_act_347 rfl ?_
                refine z_iconst (v := 4) g dL_act_348 (by decide) ?_
                refine z_ishr g dL_act_349 ?_
                refine z_iload_n g dL_act_350 rfl ?_
                refine z_callS g _ _ cs_L_148 (c_word0 _ M _) rfl (by rw [hR]; decide) (by rw [hR]; decide) (by rw [hR]; decide) (Nat.le_of_ble_eq_true rfl) rfl dL_act_351 (fun _ _ h => False.elim h) (fun r_351 M_351 h_351 => ?_)
                obtain ⟨rfl, rfl⟩ := h_351
                refine z_callSH g _ _ csh_L_does (e_name _ M hX hV _ _ _ _) rfl (by rw [hR]; decide) (by rw [hR]; decide) (by rw [hR]; decide) (Nat.le_of_ble_eq_true rfl) rfl dL_act_354 (fun _ _ h => False.elim h) (fun r_9 M1 h_9 => ?_)
                obtain ⟨rfl, hg, hB⟩ := h_9
                refine z_goto (tgt := 478) g dL_act_357 (by decide) ?_
                exact z_lret g hrt (by decide) (by decide) dL_act_478 (act_to (by unfold actF; rw [if_neg hodd]; unfold actE; rw [if_neg c_178, if_neg c_183, if_pos c_245, if_pos c_267, if_neg c_306, if_neg c_336]) hg hB)
            · refine z_aload_n g dL_act_309 rfl ?_
              refine z_iconst (v := 3) g dL_act_310 (by decide) ?_
              refine z_iload g dL_act_311 rfl ?_
              refine z_iload_n g dL_act_313 rfl ?_
              refine z_bipush (v := 10) g dL_act_314 (by decide) ?_
              refine z_ishr g dL_act_316 ?_
              refine z_iconst (v := 5) g dL_act_317 (by decide) ?_
              refine z_callS g _ _ cs_L_140 (c_low _ M _ _ (by decide)) rfl (by rw [hR]; decide) (by rw [hR]; decide) (by rw [hR]; decide) (Nat.le_of_ble_eq_true rfl) rfl dL_act_318 (fun _ _ h => False.elim h) (fun r_318 M_318 h_318 => ?_)
              obtain ⟨rfl, rfl⟩ := h_318
              refine z_iconst (v := 1) g dL_act_321 (by decide) ?_
              refine z_isub g dL_act_322 ?_
              refine z_iload g dL_act_323 rfl ?_
              refine z_lconst (v := 0) g dL_act_325 (by decide) ?_
              refine z_callSH g _ _ csh_L_does (e_end _ M hX hV _ _ _ _) rfl (by rw [hR]; decide) (by rw [hR]; decide) (by rw [hR]; decide) (Nat.le_of_ble_eq_true rfl) rfl dL_act_326 (fun _ _ h => False.elim h) (fun r_9 M1 h_9 => ?_)
              obtain ⟨rfl, hg, hB⟩ := h_9
              refine z_goto (tgt := 478) g dL_act_329 (by decide) ?_
              exact z_lret g hrt (by decide) (by decide) dL_act_478 (act_to (by unfold actF; rw [if_neg hodd]; unfold actE; rw [if_neg c_178, if_neg c_183, if_pos c_245, if_pos c_267, if_pos c_306]) hg hB)
          · refine z_aload_n g dL_act_270 rfl ?_
            refine z_iconst (v := 2) g dL_act_271 (by decide) ?_
            refine z_iload g dL_act_272 rfl ?_
            refine z_iload_n g dL_act_274 rfl ?_
            refine z_bipush (v := 10) g dL_act_275 (by decide) ?_
            refine z_ishr g dL_act_277 ?_
            refine z_iload_n g dL_act_278 rfl ?_
            refine z_if_eq (tgt := 287) g dL_act_279 (by decide) (fun _ => ?_) (fun c_279 => absurd c_279 (by decide))
            refine z_iconst (v := 4) g dL_act_287 (by decide) ?_
            refine z_callS g _ _ cs_L_140 (c_low _ M _ _ (by decide)) rfl (by rw [hR]; decide) (by rw [hR]; decide) (by rw [hR]; decide) (Nat.le_of_ble_eq_true rfl) rfl dL_act_288 (fun _ _ h => False.elim h) (fun r_288 M_288 h_288 => ?_)
            obtain ⟨rfl, rfl⟩ := h_288
            refine z_iconst (v := 1) g dL_act_291 (by decide) ?_
            refine z_isub g dL_act_292 ?_
            refine z_iload g dL_act_293 rfl ?_
            refine z_lconst (v := 0) g dL_act_295 (by decide) ?_
            refine z_callSH g _ _ csh_L_does (e_part _ M hX hV _ _ _ _) rfl (by rw [hR]; decide) (by rw [hR]; decide) (by rw [hR]; decide) (Nat.le_of_ble_eq_true rfl) rfl dL_act_296 (fun _ _ h => False.elim h) (fun r_9 M1 h_9 => ?_)
            obtain ⟨rfl, hg, hB⟩ := h_9
            refine z_goto (tgt := 478) g dL_act_299 (by decide) ?_
            exact z_lret g hrt (by decide) (by decide) dL_act_478 (act_to (by unfold actF; rw [if_neg hodd]; unfold actE; rw [if_neg c_178, if_neg c_183, if_pos c_245, if_neg c_267]) hg hB)
        · refine z_aload_n g dL_act_248 rfl ?_
          refine z_iconst (v := 1) g dL_act_249 (by decide) ?_
          refine z_iload g dL_act_250 rfl ?_
          refine z_iload g dL_act_252 rfl ?_
          refine z_iload g dL_act_254 rfl ?_
          refine z_lconst (v := 0) g dL_act_256 (by decide) ?_
          refine z_callSH g _ _ csh_L_does (e_move _ M hX hV _ _ _ _) rfl (by rw [hR]; decide) (by rw [hR]; decide) (by rw [hR]; decide) (Nat.le_of_ble_eq_true rfl) rfl dL_act_257 (fun _ _ h => False.elim h) (fun r_9 M1 h_9 => ?_)
          obtain ⟨rfl, hg, hB⟩ := h_9
          refine z_goto (tgt := 478) g dL_act_260 (by decide) ?_
          exact z_lret g hrt (by decide) (by decide) dL_act_478 (act_to (by unfold actF; rw [if_neg hodd]; unfold actE; rw [if_neg c_178, if_neg c_183, if_neg c_245]) hg hB)
      · refine z_aload_n g dL_act_186 rfl ?_
        refine z_iconst (v := 0) g dL_act_187 (by decide) ?_
        refine z_iload_n g dL_act_188 rfl ?_
        refine z_if_eq (tgt := 206) g dL_act_189 (by decide) (fun _ => ?_) (fun c_189 => absurd c_189 (by decide))
        refine z_iload_n g dL_act_206 rfl ?_
        refine z_iconst (v := 1) g dL_act_207 (by decide) ?_
        refine z_iand g dL_act_208 ?_
        refine z_if_ne (tgt := 216) g dL_act_209 (by decide) (fun c_209 => ?_) (fun c_209 => ?_)
        · refine z_iload_n g dL_act_216 rfl ?_
          refine z_bipush (v := 6) g dL_act_217 (by decide) ?_
          refine z_ishr g dL_act_219 ?_
          refine z_bipush (v := 6) g dL_act_220 (by decide) ?_
          refine z_callS g _ _ cs_L_140 (c_low _ M _ _ (by decide)) rfl (by rw [hR]; decide) (by rw [hR]; decide) (by rw [hR]; decide) (Nat.le_of_ble_eq_true rfl) rfl dL_act_222 (fun _ _ h => False.elim h) (fun r_222 M_222 h_222 => ?_)
          obtain ⟨rfl, rfl⟩ := h_222
          refine z_iload g dL_act_225 rfl ?_
          refine z_bipush (v := 100) g dL_act_227 (by decide) ?_
          refine z_idiv g dL_act_229 (by decide) ?_
          refine z_iload g dL_act_230 rfl ?_
          refine z_bipush (v := 100) g dL_act_232 (by decide) ?_
          refine z_irem g dL_act_234 (by decide) ?_
          refine z_lconst (v := 0) g dL_act_235 (by decide) ?_
          refine z_callSH g _ _ csh_L_does (e_feature _ M hX hV _ _ _ _) rfl (by rw [hR]; decide) (by rw [hR]; decide) (by rw [hR]; decide) (Nat.le_of_ble_eq_true rfl) rfl dL_act_236 (fun _ _ h => False.elim h) (fun r_9 M1 h_9 => ?_)
          obtain ⟨rfl, hg, hB⟩ := h_9
          refine z_goto (tgt := 478) g dL_act_239 (by decide) ?_
          exact z_lret g hrt (by decide) (by decide) dL_act_478 (act_to (by unfold actF; rw [if_neg hodd]; unfold actE; rw [if_neg c_178, if_pos c_183, if_neg c_209]) hg hB)
        · refine z_iconst (v := 5) g dL_act_212 (by decide) ?_
          refine z_goto (tgt := 225) g dL_act_213 (by decide) ?_
          refine z_iload g dL_act_225 rfl ?_
          refine z_bipush (v := 100) g dL_act_227 (by decide) ?_
          refine z_idiv g dL_act_229 (by decide) ?_
          refine z_iload g dL_act_230 rfl ?_
          refine z_bipush (v := 100) g dL_act_232 (by decide) ?_
          refine z_irem g dL_act_234 (by decide) ?_
          refine z_lconst (v := 0) g dL_act_235 (by decide) ?_
          refine z_callSH g _ _ csh_L_does (e_feature _ M hX hV _ _ _ _) rfl (by rw [hR]; decide) (by rw [hR]; decide) (by rw [hR]; decide) (Nat.le_of_ble_eq_true rfl) rfl dL_act_236 (fun _ _ h => False.elim h) (fun r_9 M1 h_9 => ?_)
          obtain ⟨rfl, hg, hB⟩ := h_9
          refine z_goto (tgt := 478) g dL_act_239 (by decide) ?_
          exact z_lret g hrt (by decide) (by decide) dL_act_478 (act_to (by unfold actF; rw [if_neg hodd]; unfold actE; rw [if_neg c_178, if_pos c_183, if_pos c_209]) hg hB)
  have tailO : ∀ (wv : Int32) (hw : wv = (now + lowA (v >>> ((8 : Int32) &&& 31)) 60 - (20 : Int32))) (hodd : v >>> ((18 : Int32) &&& 31) &&& 7 = 7), Z X M 0 0 135 [(0, .ref x), (1, .int now), (2, .int v), (3, .int 1), (4, .int (lowA v 64)), (5, .int (lowA (v >>> ((6 : Int32) &&& 31)) 12 - (1 : Int32))), (6, .int (lowA (v >>> ((9 : Int32) &&& 31)) 6 - (1 : Int32))), (8, .int wv)] [] := by
    intro wv hw hodd
    subst hw
    refine z_iload_n g dL_act_135 rfl ?_
    refine z_if_eq (tgt := 151) g dL_act_136 (by decide) (fun c_136 => absurd c_136 (by decide)) (fun _ => ?_)
    refine z_iload_n g dL_act_139 rfl ?_
    refine z_iconst (v := 5) g dL_act_140 (by decide) ?_
    refine z_ishr g dL_act_141 ?_
    refine z_sipush (v := 11000) g dL_act_142 (by decide) ?_
    refine z_callS g _ _ cs_L_140 (c_low _ M _ _ (by decide)) rfl (by rw [hR]; decide) (by rw [hR]; decide) (by rw [hR]; decide) (Nat.le_of_ble_eq_true rfl) rfl dL_act_145 (fun _ _ h => False.elim h) (fun r_145 M_145 h_145 => ?_)
    obtain ⟨rfl, rfl⟩ := h_145
    refine z_goto (tgt := 172) g dL_act_148 (by decide) ?_
    refine z_istore g dL_act_172 (by rw [hN]; decide) ?_
    refine z_iload g dL_act_174 rfl ?_
    refine z_bipush (v := 30) g dL_act_176 (by decide) ?_
    refine z_icmp_ge (tgt := 479) g dL_act_178 (by decide) (fun c_178 => ?_) (fun c_178 => ?_)
    · refine z_iload g dL_act_479 rfl ?_
      refine z_bipush (v := 52) g dL_act_481 (by decide) ?_
      refine z_icmp_ge (tgt := 772) g dL_act_483 (by decide) (fun c_483 => ?_) (fun c_483 => ?_)
      · refine z_iload_n g dL_act_772 rfl ?_
        refine z_if_eq (tgt := 790) g dL_act_773 (by decide) (fun c_773 => absurd c_773 (by decide)) (fun _ => ?_)
        refine z_iload_n g dL_act_776 rfl ?_
        refine z_bipush (v := 6) g dL_act_777 (by decide) ?_
        refine z_ishr g dL_act_779 ?_
        refine z_bipush (v := 7) g dL_act_780 (by decide) ?_
        refine z_callS g _ _ cs_L_140 (c_low _ M _ _ (by decide)) rfl (by rw [hR]; decide) (by rw [hR]; decide) (by rw [hR]; decide) (Nat.le_of_ble_eq_true rfl) rfl dL_act_782 (fun _ _ h => False.elim h) (fun r_782 M_782 h_782 => ?_)
        obtain ⟨rfl, rfl⟩ := h_782
        refine z_iconst (v := 1) g dL_act_785 (by decide) ?_
        refine z_isub g dL_act_786 ?_
        refine z_goto (tgt := 798) g dL_act_787 (by decide) ?_
        refine z_istore g dL_act_798 (by rw [hN]; decide) ?_
        refine z_iload g dL_act_800 rfl ?_
        refine z_bipush (v := 54) g dL_act_802 (by decide) ?_
        refine z_icmp_ge (tgt := 866) g dL_act_804 (by decide) (fun c_804 => ?_) (fun c_804 => ?_)
        · refine z_iload g dL_act_866 rfl ?_
          refine z_bipush (v := 54) g dL_act_868 (by decide) ?_
          refine z_icmp_ne (tgt := 899) g dL_act_870 (by decide) (fun c_870 => ?_) (fun c_870 => ?_)
          · refine z_iload g dL_act_899 rfl ?_
            refine z_bipush (v := 55) g dL_act_901 (by decide) ?_
            refine z_icmp_ne (tgt := 951) g dL_act_903 (by decide) (fun c_903 => ?_) (fun c_903 => ?_)
            · refine z_iload g dL_act_951 rfl ?_
              refine z_bipush (v := 58) g dL_act_953 (by decide) ?_
              refine z_icmp_ge (tgt := 972) g dL_act_955 (by decide) (fun c_955 => ?_) (fun c_955 => ?_)
              · refine z_iload g dL_act_972 rfl ?_
                refine z_bipush (v := 58) g dL_act_974 (by decide) ?_
                refine z_icmp_ne (tgt := 993) g dL_act_976 (by decide) (fun c_976 => ?_) (fun c_976 => ?_)
                · refine z_iload g dL_act_993 rfl ?_
                  refine z_bipush (v := 59) g dL_act_995 (by decide) ?_
                  refine z_icmp_ne (tgt := 1029) g dL_act_997 (by decide) (fun c_997 => ?_) (fun c_997 => ?_)
                  · refine z_lconst (v := 0) g dL_act_1029 (by decide) ?_
                    exact z_lret g hrt (by decide) (by decide) dL_act_1030 ⟨by rw [show actF now v S = (0, S) from by unfold actF; rw [if_pos hodd]; unfold actO; rw [if_pos c_178, if_pos c_483, if_pos c_804, if_neg c_870, if_neg c_903, if_pos c_955, if_neg c_976, if_neg c_997]], agr.rf, B, by rw [show actF now v S = (0, S) from by unfold actF; rw [if_pos hodd]; unfold actO; rw [if_pos c_178, if_pos c_483, if_pos c_804, if_neg c_870, if_neg c_903, if_pos c_955, if_neg c_976, if_neg c_997]]; exact hX⟩
                  · refine z_aload_n g dL_act_1000 rfl ?_
                    refine z_bipush (v := 29) g dL_act_1001 (by decide) ?_
                    refine z_iload_n g dL_act_1003 rfl ?_
                    refine z_bipush (v := 6) g dL_act_1004 (by decide) ?_
                    refine z_ishr g dL_act_1006 ?_
                    refine z_iload_n g dL_act_1007 rfl ?_
                    refine z_if_eq (tgt := 1016) g dL_act_1008 (by decide) (fun c_1008 => absurd c_1008 (by decide)) (fun _ => ?_)
                    refine z_bipush (v := 16) g dL_act_1011 (by decide) ?_
                    refine z_goto (tgt := 1017) g dL_act_1013 (by decide) ?_
                    refine z_callS g _ _ cs_L_140 (c_low _ M _ _ (by decide)) rfl (by rw [hR]; decide) (by rw [hR]; decide) (by rw [hR]; decide) (Nat.le_of_ble_eq_true rfl) rfl dL_act_1017 (fun _ _ h => False.elim h) (fun r_1017 M_1017 h_1017 => ?_)
                    obtain ⟨rfl, rfl⟩ := h_1017
                    refine z_iconst (v := 0) g dL_act_1020 (by decide) ?_
                    refine z_iconst (v := 0) g dL_act_1021 (by decide) ?_
                    refine z_lconst (v := 0) g dL_act_1022 (by decide) ?_
                    refine z_callSH g _ _ csh_L_does (e_budget _ M hX hV _ _ _ _) rfl (by rw [hR]; decide) (by rw [hR]; decide) (by rw [hR]; decide) (Nat.le_of_ble_eq_true rfl) rfl dL_act_1023 (fun _ _ h => False.elim h) (fun r_9 M1 h_9 => ?_)
                    obtain ⟨rfl, hg, hB⟩ := h_9
                    refine z_goto (tgt := 1030) g dL_act_1026 (by decide) ?_
                    exact z_lret g hrt (by decide) (by decide) dL_act_1030 (act_to (by unfold actF; rw [if_pos hodd]; unfold actO; rw [if_pos c_178, if_pos c_483, if_pos c_804, if_neg c_870, if_neg c_903, if_pos c_955, if_neg c_976, if_pos c_997]) hg hB)
                · refine z_aload_n g dL_act_979 rfl ?_
                  refine z_bipush (v := 28) g dL_act_980 (by decide) ?_
                  refine z_iload g dL_act_982 rfl ?_
                  refine z_iconst (v := 0) g dL_act_984 (by decide) ?_
                  refine z_iconst (v := 0) g dL_act_985 (by decide) ?_
                  refine z_lconst (v := 0) g dL_act_986 (by decide) ?_
                  refine z_callSH g _ _ csh_L_does (e_order _ M hX hV _ _ _ _) rfl (by rw [hR]; decide) (by rw [hR]; decide) (by rw [hR]; decide) (Nat.le_of_ble_eq_true rfl) rfl dL_act_987 (fun _ _ h => False.elim h) (fun r_9 M1 h_9 => ?_)
                  obtain ⟨rfl, hg, hB⟩ := h_9
                  refine z_goto (tgt := 1030) g dL_act_990 (by decide) ?_
                  exact z_lret g hrt (by decide) (by decide) dL_act_1030 (act_to (by unfold actF; rw [if_pos hodd]; unfold actO; rw [if_pos c_178, if_pos c_483, if_pos c_804, if_neg c_870, if_neg c_903, if_pos c_955, if_pos c_976]) hg hB)
              · refine z_aload_n g dL_act_958 rfl ?_
                refine z_bipush (v := 26) g dL_act_959 (by decide) ?_
                refine z_iload g dL_act_961 rfl ?_
                refine z_iconst (v := 0) g dL_act_963 (by decide) ?_
                refine z_iconst (v := 0) g dL_act_964 (by decide) ?_
                refine z_lconst (v := 0) g dL_act_965 (by decide) ?_
                refine z_callSH g _ _ csh_L_does (e_pull _ M hX hV _ _ _ _) rfl (by rw [hR]; decide) (by rw [hR]; decide) (by rw [hR]; decide) (Nat.le_of_ble_eq_true rfl) rfl dL_act_966 (fun _ _ h => False.elim h) (fun r_9 M1 h_9 => ?_)
                obtain ⟨rfl, hg, hB⟩ := h_9
                refine z_goto (tgt := 1030) g dL_act_969 (by decide) ?_
                exact z_lret g hrt (by decide) (by decide) dL_act_1030 (act_to (by unfold actF; rw [if_pos hodd]; unfold actO; rw [if_pos c_178, if_pos c_483, if_pos c_804, if_neg c_870, if_neg c_903, if_neg c_955]) hg hB)
            · refine z_aload_n g dL_act_906 rfl ?_
              refine z_bipush (v := 25) g dL_act_907 (by decide) ?_
              refine z_iconst (v := 0) g dL_act_909 (by decide) ?_
              refine z_iload g dL_act_910 rfl ?_
              refine z_iload_n g dL_act_912 rfl ?_
              refine z_if_eq (tgt := 930) g dL_act_913 (by decide) (fun c_913 => absurd c_913 (by decide)) (fun _ => ?_)
              refine z_iload_n g dL_act_916 rfl ?_
              refine z_bipush (v := 6) g dL_act_917 (by decide) ?_
              refine z_ishr g dL_act_919 ?_
              refine z_bipush (v := 8) g dL_act_920 (by decide) ?_
              refine z_callS g _ _ cs_L_140 (c_low _ M _ _ (by decide)) rfl (by rw [hR]; decide) (by rw [hR]; decide) (by rw [hR]; decide) (Nat.le_of_ble_eq_true rfl) rfl dL_act_922 (fun _ _ h => False.elim h) (fun r_922 M_922 h_922 => ?_)
              obtain ⟨rfl, rfl⟩ := h_922
              refine z_iconst (v := 3) g dL_act_925 (by decide) ?_
              refine z_isub g dL_act_926 ?_
              refine z_goto (tgt := 938) g dL_act_927 (by decide) ?_
              refine z_iload_n g dL_act_938 rfl ?_
              refine z_iconst (v := 4) g dL_act_939 (by decide) ?_
              refine z_ishr g dL_act_940 ?_
              refine z_iload_n g dL_act_941 rfl ?_
              refine z_callS g _ _ cs_L_148 (c_word1 _ M _) rfl (by rw [hR]; decide) (by rw [hR]; decide) (by rw [hR]; decide) (Nat.le_of_ble_eq_true rfl) rfl dL_act_942 (fun _ _ h => False.elim h) (fun r_942 M_942 h_942 => ?_)
              obtain ⟨rfl, rfl⟩ := h_942
              refine z_callSH g _ _ csh_L_does (e_find _ M hX hV _ _ _ _) rfl (by rw [hR]; decide) (by rw [hR]; decide) (by rw [hR]; decide) (Nat.le_of_ble_eq_true rfl) rfl dL_act_945 (fun _ _ h => False.elim h) (fun r_9 M1 h_9 => ?_)
              obtain ⟨rfl, hg, hB⟩ := h_9
              refine z_goto (tgt := 1030) g dL_act_948 (by decide) ?_
              exact z_lret g hrt (by decide) (by decide) dL_act_1030 (act_to (by unfold actF; rw [if_pos hodd]; unfold actO; rw [if_pos c_178, if_pos c_483, if_pos c_804, if_neg c_870, if_pos c_903]) hg hB)
          · refine z_aload_n g dL_act_873 rfl ?_
            refine z_bipush (v := 20) g dL_act_874 (by decide) ?_
            refine z_iload_n g dL_act_876 rfl ?_
            refine z_iconst (v := 5) g dL_act_877 (by decide) ?_
            refine z_ishr g dL_act_878 ?_
            refine z_iconst (v := 1) g dL_act_879 (by decide) ?_
            refine z_iand g dL_act_880 ?_
            refine z_iadd g dL_act_881 ?_
            refine z_iload g dL_act_882 rfl ?_
            refine z_iconst (v := 0) g dL_act_884 (by decide) ?_
            refine z_iconst (v := 0) g dL_act_885 (by decide) ?_
            refine z_iload_n g dL_act_886 rfl ?_
            refine z_iconst (v := 4) g dL_act_887 (by decide) ?_
            refine z_ishr g dL_act_888 ?_
            refine z_iload_n g dL_act_889 rfl ?_
            refine z_callS g _ _ cs_L_148 (c_word1 _ M _) rfl (by rw [hR]; decide) (by rw [hR]; decide) (by rw [hR]; decide) (Nat.le_of_ble_eq_true rfl) rfl dL_act_890 (fun _ _ h => False.elim h) (fun r_890 M_890 h_890 => ?_)
            obtain ⟨rfl, rfl⟩ := h_890
            by_cases c_893 : v >>> ((5 : Int32) &&& 31) &&& 1 = 0
            · rw [c_893, show (20 : Int32) + 0 = 20 from rfl]
              refine z_callSH g _ _ csh_L_does (e_write _ M hX hV _ _ _ _) rfl (by rw [hR]; decide) (by rw [hR]; decide) (by rw [hR]; decide) (Nat.le_of_ble_eq_true rfl) rfl dL_act_893 (fun _ _ h => False.elim h) (fun r_9 M1 h_9 => ?_)
              obtain ⟨rfl, hg, hB⟩ := h_9
              refine z_goto (tgt := 1030) g dL_act_896 (by decide) ?_
              exact z_lret g hrt (by decide) (by decide) dL_act_1030 (act_to (by unfold actF; rw [if_pos hodd]; unfold actO; rw [if_pos c_178, if_pos c_483, if_pos c_804, if_pos c_870, if_pos c_893]) hg hB)
            · rw [show v >>> ((5 : Int32) &&& 31) &&& 1 = 1 from by
                obtain ⟨j, hj, e⟩ := pk_andE (v >>> ((5 : Int32) &&& 31)) (m := 1) 1 (by decide)
                rcases (show j = 0 ∨ j = 1 by omega) with rfl | rfl
                · exact absurd e c_893
                · exact e, show (20 : Int32) + 1 = 21 from rfl]
              refine z_callSH g _ _ csh_L_does (e_back _ M hX hV _ _ _ _) rfl (by rw [hR]; decide) (by rw [hR]; decide) (by rw [hR]; decide) (Nat.le_of_ble_eq_true rfl) rfl dL_act_893 (fun _ _ h => False.elim h) (fun r_9 M1 h_9 => ?_)
              obtain ⟨rfl, hg, hB⟩ := h_9
              refine z_goto (tgt := 1030) g dL_act_896 (by decide) ?_
              exact z_lret g hrt (by decide) (by decide) dL_act_1030 (act_to (by unfold actF; rw [if_pos hodd]; unfold actO; rw [if_pos c_178, if_pos c_483, if_pos c_804, if_pos c_870, if_neg c_893]) hg hB)
        · refine z_aload_n g dL_act_807 rfl ?_
          refine z_bipush (v := 19) g dL_act_808 (by decide) ?_
          refine z_iload g dL_act_810 rfl ?_
          refine z_iload_n g dL_act_812 rfl ?_
          refine z_if_eq (tgt := 820) g dL_act_813 (by decide) (fun c_813 => absurd c_813 (by decide)) (fun _ => ?_)
          refine z_iconst (v := 0) g dL_act_816 (by decide) ?_
          refine z_goto (tgt := 821) g dL_act_817 (by decide) ?_
          refine z_iload_n g dL_act_821 rfl ?_
          refine z_bipush (v := 9) g dL_act_822 (by decide) ?_
          refine z_ishr g dL_act_824 ?_
          refine z_iload_n g dL_act_825 rfl ?_
          refine z_if_eq (tgt := 834) g dL_act_826 (by decide) (fun c_826 => absurd c_826 (by decide)) (fun _ => ?_)
          refine z_bipush (v := 30) g dL_act_829 (by decide) ?_
          refine z_goto (tgt := 835) g dL_act_831 (by decide) ?_
          refine z_callS g _ _ cs_L_140 (c_low _ M _ _ (by decide)) rfl (by rw [hR]; decide) (by rw [hR]; decide) (by rw [hR]; decide) (Nat.le_of_ble_eq_true rfl) rfl dL_act_835 (fun _ _ h => False.elim h) (fun r_835 M_835 h_835 => ?_)
          obtain ⟨rfl, rfl⟩ := h_835
          refine z_iadd g dL_act_838 ?_
          refine z_iconst (v := 1) g dL_act_839 (by decide) ?_
          refine z_iload_n g dL_act_840 rfl ?_
          refine z_bipush (v := 11) g dL_act_841 (by decide) ?_
          refine z_ishr g dL_act_843 ?_
          refine z_iload_n g dL_act_844 rfl ?_
          refine z_if_eq (tgt := 853) g dL_act_845 (by decide) (fun c_845 => absurd c_845 (by decide)) (fun _ => ?_)
          refine z_bipush (v := 30) g dL_act_848 (by decide) ?_
          refine z_goto (tgt := 855) g dL_act_850 (by decide) ?_
          refine z_callS g _ _ cs_L_140 (c_low _ M _ _ (by decide)) rfl (by rw [hR]; decide) (by rw [hR]; decide) (by rw [hR]; decide) (Nat.le_of_ble_eq_true rfl) rfl dL_act_855 (fun _ _ h => False.elim h) (fun r_855 M_855 h_855 => ?_)
          obtain ⟨rfl, rfl⟩ := h_855
          refine z_iadd g dL_act_858 ?_
          refine z_lconst (v := 0) g dL_act_859 (by decide) ?_
          refine z_callSH g _ _ csh_L_does (e_table _ M hX hV _ _ _ _) rfl (by rw [hR]; decide) (by rw [hR]; decide) (by rw [hR]; decide) (Nat.le_of_ble_eq_true rfl) rfl dL_act_860 (fun _ _ h => False.elim h) (fun r_9 M1 h_9 => ?_)
          obtain ⟨rfl, hg, hB⟩ := h_9
          refine z_goto (tgt := 1030) g dL_act_863 (by decide) ?_
          exact z_lret g hrt (by decide) (by decide) dL_act_1030 (act_to (by unfold actF; rw [if_pos hodd]; unfold actO; rw [if_pos c_178, if_pos c_483, if_neg c_804]) hg hB)
      · refine z_iload_n g dL_act_486 rfl ?_
        refine z_if_eq (tgt := 504) g dL_act_487 (by decide) (fun c_487 => absurd c_487 (by decide)) (fun _ => ?_)
        refine z_iload_n g dL_act_490 rfl ?_
        refine z_bipush (v := 7) g dL_act_491 (by decide) ?_
        refine z_ishr g dL_act_493 ?_
        refine z_bipush (v := 20) g dL_act_494 (by decide) ?_
        refine z_callS g _ _ cs_L_140 (c_low _ M _ _ (by decide)) rfl (by rw [hR]; decide) (by rw [hR]; decide) (by rw [hR]; decide) (Nat.le_of_ble_eq_true rfl) rfl dL_act_496 (fun _ _ h => False.elim h) (fun r_496 M_496 h_496 => ?_)
        obtain ⟨rfl, rfl⟩ := h_496
        refine z_iconst (v := 2) g dL_act_499 (by decide) ?_
        refine z_isub g dL_act_500 ?_
        refine z_goto (tgt := 513) g dL_act_501 (by decide) ?_
        refine z_istore g dL_act_513 (by rw [hN]; decide) ?_
        refine z_iload g dL_act_515 rfl ?_
        refine z_bipush (v := 33) g dL_act_517 (by decide) ?_
        refine z_icmp_ge (tgt := 573) g dL_act_519 (by decide) (fun c_519 => ?_) (fun c_519 => ?_)
        · refine z_iload g dL_act_573 rfl ?_
          refine z_bipush (v := 42) g dL_act_575 (by decide) ?_
          refine z_icmp_ge (tgt := 623) g dL_act_577 (by decide) (fun c_577 => ?_) (fun c_577 => ?_)
          · refine z_iload g dL_act_623 rfl ?_
            refine z_bipush (v := 42) g dL_act_625 (by decide) ?_
            refine z_icmp_ne (tgt := 661) g dL_act_627 (by decide) (fun c_627 => ?_) (fun c_627 => ?_)
            · refine z_iload g dL_act_661 rfl ?_
              refine z_bipush (v := 48) g dL_act_663 (by decide) ?_
              refine z_icmp_ge (tgt := 682) g dL_act_665 (by decide) (fun c_665 => ?_) (fun c_665 => ?_)
              · refine z_iload g dL_act_682 rfl ?_
                refine z_bipush (v := 50) g dL_act_684 (by decide) ?_
                refine z_icmp_ge (tgt := 703) g dL_act_686 (by decide) (fun c_686 => ?_) (fun c_686 => ?_)
                · refine z_iload g dL_act_703 rfl ?_
                  refine z_bipush (v := 50) g dL_act_705 (by decide) ?_
                  refine z_icmp_ne (tgt := 743) g dL_act_707 (by decide) (fun c_707 => ?_) (fun c_707 => ?_)
                  · refine z_aload_n g dL_act_743 rfl ?_
                    refine z_bipush (v := 16) g dL_act_744 (by decide) ?_
                    refine z_iload g dL_act_746 rfl ?_
                    refine z_iload g dL_act_748 rfl ?_
                    refine z_iload_n g dL_act_750 rfl ?_
                    refine z_bipush (v := 11) g dL_act_751 (by decide) ?_
                    refine z_ishr g dL_act_753 ?_
                    refine z_iload_n g dL_act_754 rfl ?_
                    refine z_if_eq (tgt := 763) g dL_act_755 (by decide) (fun c_755 => absurd c_755 (by decide)) (fun _ => ?_)
                    refine z_bipush (v := 6) g dL_act_758 (by decide) ?_
                    refine z_goto (tgt := 764) g dL_act_760 (by decide) ?_
                    refine z_callS g _ _ cs_L_140 (c_low _ M _ _ (by decide)) rfl (by rw [hR]; decide) (by rw [hR]; decide) (by rw [hR]; decide) (Nat.le_of_ble_eq_true rfl) rfl dL_act_764 (fun _ _ h => False.elim h) (fun r_764 M_764 h_764 => ?_)
                    obtain ⟨rfl, rfl⟩ := h_764
                    refine z_lconst (v := 0) g dL_act_767 (by decide) ?_
                    refine z_callSH g _ _ csh_L_does (e_dispute _ M hX hV _ _ _ _) rfl (by rw [hR]; decide) (by rw [hR]; decide) (by rw [hR]; decide) (Nat.le_of_ble_eq_true rfl) rfl dL_act_768 (fun _ _ h => False.elim h) (fun r_9 M1 h_9 => ?_)
                    obtain ⟨rfl, hg, hB⟩ := h_9
                    exact z_lret g hrt (by decide) (by decide) dL_act_771 (act_to (by unfold actF; rw [if_pos hodd]; unfold actO; rw [if_pos c_178, if_neg c_483, if_pos c_519, if_pos c_577, if_neg c_627, if_pos c_665, if_pos c_686, if_neg c_707]) hg hB)
                  · refine z_aload_n g dL_act_710 rfl ?_
                    refine z_bipush (v := 15) g dL_act_711 (by decide) ?_
                    refine z_iload g dL_act_713 rfl ?_
                    refine z_iload g dL_act_715 rfl ?_
                    refine z_iload_n g dL_act_717 rfl ?_
                    refine z_bipush (v := 11) g dL_act_718 (by decide) ?_
                    refine z_ishr g dL_act_720 ?_
                    refine z_iload_n g dL_act_721 rfl ?_
                    refine z_if_eq (tgt := 731) g dL_act_722 (by decide) (fun c_722 => absurd c_722 (by decide)) (fun _ => ?_)
                    refine z_sipush (v := 140) g dL_act_725 (by decide) ?_
                    refine z_goto (tgt := 733) g dL_act_728 (by decide) ?_
                    refine z_callS g _ _ cs_L_140 (c_low _ M _ _ (by decide)) rfl (by rw [hR]; decide) (by rw [hR]; decide) (by rw [hR]; decide) (Nat.le_of_ble_eq_true rfl) rfl dL_act_733 (fun _ _ h => False.elim h) (fun r_733 M_733 h_733 => ?_)
                    obtain ⟨rfl, rfl⟩ := h_733
                    refine z_lconst (v := 0) g dL_act_736 (by decide) ?_
                    refine z_callSH g _ _ csh_L_does (e_census _ M hX hV _ _ _ _) rfl (by rw [hR]; decide) (by rw [hR]; decide) (by rw [hR]; decide) (Nat.le_of_ble_eq_true rfl) rfl dL_act_737 (fun _ _ h => False.elim h) (fun r_9 M1 h_9 => ?_)
                    obtain ⟨rfl, hg, hB⟩ := h_9
                    refine z_goto (tgt := 771) g dL_act_740 (by decide) ?_
                    exact z_lret g hrt (by decide) (by decide) dL_act_771 (act_to (by unfold actF; rw [if_pos hodd]; unfold actO; rw [if_pos c_178, if_neg c_483, if_pos c_519, if_pos c_577, if_neg c_627, if_pos c_665, if_pos c_686, if_pos c_707]) hg hB)
                · refine z_aload_n g dL_act_689 rfl ?_
                  refine z_bipush (v := 13) g dL_act_690 (by decide) ?_
                  refine z_iload g dL_act_692 rfl ?_
                  refine z_iconst (v := 0) g dL_act_694 (by decide) ?_
                  refine z_iconst (v := 0) g dL_act_695 (by decide) ?_
                  refine z_lconst (v := 0) g dL_act_696 (by decide) ?_
                  refine z_callSH g _ _ csh_L_does (e_appeal _ M hX hV _ _ _ _) rfl (by rw [hR]; decide) (by rw [hR]; decide) (by rw [hR]; decide) (Nat.le_of_ble_eq_true rfl) rfl dL_act_697 (fun _ _ h => False.elim h) (fun r_9 M1 h_9 => ?_)
                  obtain ⟨rfl, hg, hB⟩ := h_9
                  refine z_goto (tgt := 771) g dL_act_700 (by decide) ?_
                  exact z_lret g hrt (by decide) (by decide) dL_act_771 (act_to (by unfold actF; rw [if_pos hodd]; unfold actO; rw [if_pos c_178, if_neg c_483, if_pos c_519, if_pos c_577, if_neg c_627, if_pos c_665, if_neg c_686]) hg hB)
              · refine z_aload_n g dL_act_668 rfl ?_
                refine z_bipush (v := 12) g dL_act_669 (by decide) ?_
                refine z_iload g dL_act_671 rfl ?_
                refine z_iconst (v := 0) g dL_act_673 (by decide) ?_
                refine z_iconst (v := 0) g dL_act_674 (by decide) ?_
                refine z_lconst (v := 0) g dL_act_675 (by decide) ?_
                refine z_callSH g _ _ csh_L_does (e_decide _ M hX hV _ _ _ _) rfl (by rw [hR]; decide) (by rw [hR]; decide) (by rw [hR]; decide) (Nat.le_of_ble_eq_true rfl) rfl dL_act_676 (fun _ _ h => False.elim h) (fun r_9 M1 h_9 => ?_)
                obtain ⟨rfl, hg, hB⟩ := h_9
                refine z_goto (tgt := 771) g dL_act_679 (by decide) ?_
                exact z_lret g hrt (by decide) (by decide) dL_act_771 (act_to (by unfold actF; rw [if_pos hodd]; unfold actO; rw [if_pos c_178, if_neg c_483, if_pos c_519, if_pos c_577, if_neg c_627, if_neg c_665]) hg hB)
            · refine z_aload_n g dL_act_630 rfl ?_
              refine z_bipush (v := 11) g dL_act_631 (by decide) ?_
              refine z_iload g dL_act_633 rfl ?_
              refine z_iload_n g dL_act_635 rfl ?_
              refine z_bipush (v := 10) g dL_act_636 (by decide) ?_
              refine z_ishr g dL_act_638 ?_
              refine z_iload_n g dL_act_639 rfl ?_
              refine z_if_eq (tgt := 648) g dL_act_640 (by decide) (fun c_640 => absurd c_640 (by decide)) (fun _ => ?_)
              refine z_bipush (v := 10) g dL_act_643 (by decide) ?_
              refine z_goto (tgt := 650) g dL_act_645 (by decide) ?_
              refine z_callS g _ _ cs_L_140 (c_low _ M _ _ (by decide)) rfl (by rw [hR]; decide) (by rw [hR]; decide) (by rw [hR]; decide) (Nat.le_of_ble_eq_true rfl) rfl dL_act_650 (fun _ _ h => False.elim h) (fun r_650 M_650 h_650 => ?_)
              obtain ⟨rfl, rfl⟩ := h_650
              refine z_iconst (v := 0) g dL_act_653 (by decide) ?_
              refine z_lconst (v := 0) g dL_act_654 (by decide) ?_
              refine z_callSH g _ _ csh_L_does (e_protest _ M hX hV _ _ _ _) rfl (by rw [hR]; decide) (by rw [hR]; decide) (by rw [hR]; decide) (Nat.le_of_ble_eq_true rfl) rfl dL_act_655 (fun _ _ h => False.elim h) (fun r_9 M1 h_9 => ?_)
              obtain ⟨rfl, hg, hB⟩ := h_9
              refine z_goto (tgt := 771) g dL_act_658 (by decide) ?_
              exact z_lret g hrt (by decide) (by decide) dL_act_771 (act_to (by unfold actF; rw [if_pos hodd]; unfold actO; rw [if_pos c_178, if_neg c_483, if_pos c_519, if_pos c_577, if_pos c_627]) hg hB)
          · refine z_aload_n g dL_act_580 rfl ?_
            refine z_bipush (v := 10) g dL_act_581 (by decide) ?_
            refine z_iload g dL_act_583 rfl ?_
            refine z_iload_n g dL_act_585 rfl ?_
            refine z_bipush (v := 10) g dL_act_586 (by decide) ?_
            refine z_ishr g dL_act_588 ?_
            refine z_iload_n g dL_act_589 rfl ?_
            refine z_if_eq (tgt := 598) g dL_act_590 (by decide) (fun c_590 => absurd c_590 (by decide)) (fun _ => ?_)
            refine z_bipush (v := 11) g dL_act_593 (by decide) ?_
            refine z_goto (tgt := 600) g dL_act_595 (by decide) ?_
            refine z_callS g _ _ cs_L_140 (c_low _ M _ _ (by decide)) rfl (by rw [hR]; decide) (by rw [hR]; decide) (by rw [hR]; decide) (Nat.le_of_ble_eq_true rfl) rfl dL_act_600 (fun _ _ h => False.elim h) (fun r_600 M_600 h_600 => ?_)
            obtain ⟨rfl, rfl⟩ := h_600
            refine z_iload_n g dL_act_603 rfl ?_
            refine z_iconst (v := 5) g dL_act_604 (by decide) ?_
            refine z_ishr g dL_act_605 ?_
            refine z_iconst (v := 3) g dL_act_606 (by decide) ?_
            refine z_iand g dL_act_607 ?_
            refine z_if_le (tgt := 615) g dL_act_608 (by decide) (fun c_608 => ?_) (fun c_608 => ?_)
            · refine z_iconst (v := 0) g dL_act_615 (by decide) ?_
              refine z_lconst (v := 0) g dL_act_616 (by decide) ?_
              refine z_callSH g _ _ csh_L_does (e_vote _ M hX hV _ _ _ _) rfl (by rw [hR]; decide) (by rw [hR]; decide) (by rw [hR]; decide) (Nat.le_of_ble_eq_true rfl) rfl dL_act_617 (fun _ _ h => False.elim h) (fun r_9 M1 h_9 => ?_)
              obtain ⟨rfl, hg, hB⟩ := h_9
              refine z_goto (tgt := 771) g dL_act_620 (by decide) ?_
              exact z_lret g hrt (by decide) (by decide) dL_act_771 (act_to (by unfold actF; rw [if_pos hodd]; unfold actO; rw [if_pos c_178, if_neg c_483, if_pos c_519, if_neg c_577, if_pos c_608]) hg hB)
            · refine z_iconst (v := 1) g dL_act_611 (by decide) ?_
              refine z_goto (tgt := 616) g dL_act_612 (by decide) ?_
              refine z_lconst (v := 0) g dL_act_616 (by decide) ?_
              refine z_callSH g _ _ csh_L_does (e_vote _ M hX hV _ _ _ _) rfl (by rw [hR]; decide) (by rw [hR]; decide) (by rw [hR]; decide) (Nat.le_of_ble_eq_true rfl) rfl dL_act_617 (fun _ _ h => False.elim h) (fun r_9 M1 h_9 => ?_)
              obtain ⟨rfl, hg, hB⟩ := h_9
              refine z_goto (tgt := 771) g dL_act_620 (by decide) ?_
              exact z_lret g hrt (by decide) (by decide) dL_act_771 (act_to (by unfold actF; rw [if_pos hodd]; unfold actO; rw [if_pos c_178, if_neg c_483, if_pos c_519, if_neg c_577, if_neg c_608]) hg hB)
        · refine z_aload_n g dL_act_522 rfl ?_
          refine z_bipush (v := 9) g dL_act_523 (by decide) ?_
          refine z_iload g dL_act_525 rfl ?_
          refine z_iload g dL_act_527 rfl ?_
          refine z_iload_n g dL_act_529 rfl ?_
          refine z_iload_n g dL_act_530 rfl ?_
          refine z_if_eq (tgt := 538) g dL_act_531 (by decide) (fun c_531 => absurd c_531 (by decide)) (fun _ => ?_)
          refine z_iconst (v := 0) g dL_act_534 (by decide) ?_
          refine z_goto (tgt := 540) g dL_act_535 (by decide) ?_
          refine z_iadd g dL_act_540 ?_
          refine z_iload_n g dL_act_541 rfl ?_
          refine z_bipush (v := 8) g dL_act_542 (by decide) ?_
          refine z_ishr g dL_act_544 ?_
          refine z_iload_n g dL_act_545 rfl ?_
          refine z_if_eq (tgt := 554) g dL_act_546 (by decide) (fun c_546 => absurd c_546 (by decide)) (fun _ => ?_)
          refine z_bipush (v := 60) g dL_act_549 (by decide) ?_
          refine z_goto (tgt := 556) g dL_act_551 (by decide) ?_
          refine z_callS g _ _ cs_L_140 (c_low _ M _ _ (by decide)) rfl (by rw [hR]; decide) (by rw [hR]; decide) (by rw [hR]; decide) (Nat.le_of_ble_eq_true rfl) rfl dL_act_556 (fun _ _ h => False.elim h) (fun r_556 M_556 h_556 => ?_)
          obtain ⟨rfl, rfl⟩ := h_556
          refine z_iadd g dL_act_559 ?_
          refine z_iload_n g dL_act_560 rfl ?_
          refine z_iconst (v := 4) g dL_act_561 (by decide) ?_
          refine z_ishr g dL_act_562 ?_
          refine z_iload_n g dL_act_563 rfl ?_
          refine z_callS g _ _ cs_L_148 (c_word1 _ M _) rfl (by rw [hR]; decide) (by rw [hR]; decide) (by rw [hR]; decide) (Nat.le_of_ble_eq_true rfl) rfl dL_act_564 (fun _ _ h => False.elim h) (fun r_564 M_564 h_564 => ?_)
          obtain ⟨rfl, rfl⟩ := h_564
          refine z_callSH g _ _ csh_L_does (e_petition _ M hX hV _ _ _ _) rfl (by rw [hR]; decide) (by rw [hR]; decide) (by rw [hR]; decide) (Nat.le_of_ble_eq_true rfl) rfl dL_act_567 (fun _ _ h => False.elim h) (fun r_9 M1 h_9 => ?_)
          obtain ⟨rfl, hg, hB⟩ := h_9
          refine z_goto (tgt := 771) g dL_act_570 (by decide) ?_
          exact z_lret g hrt (by decide) (by decide) dL_act_771 (act_to (by unfold actF; rw [if_pos hodd]; unfold actO; rw [if_pos c_178, if_neg c_483, if_neg c_519]) hg hB)
    · refine z_iload g dL_act_181 rfl ?_
      refine z_if_ne (tgt := 242) g dL_act_183 (by decide) (fun c_183 => ?_) (fun c_183 => ?_)
      · refine z_iload g dL_act_242 rfl ?_
        refine z_iconst (v := 4) g dL_act_244 (by decide) ?_
        refine z_icmp_ge (tgt := 263) g dL_act_245 (by decide) (fun c_245 => ?_) (fun c_245 => ?_)
        · refine z_iload g dL_act_263 rfl ?_
          refine z_bipush (v := 8) g dL_act_265 (by decide) ?_
          refine z_icmp_ge (tgt := 302) g dL_act_267 (by decide) (fun c_267 => ?_) (fun c_267 => ?_)
          · refine z_iload g dL_act_302 rfl ?_
            refine z_bipush (v := 8) g dL_act_304 (by decide) ?_
            refine z_icmp_ne (tgt := 332) g dL_act_306 (by decide) (fun c_306 => ?_) (fun c_306 => ?_)
            · refine z_iload g dL_act_332 rfl ?_
              refine z_bipush (v := 20) g dL_act_334 (by decide) ?_
              refine z_icmp_ge (tgt := 360) g dL_act_336 (by decide) (fun c_336 => ?_) (fun c_336 => ?_)
              · refine z_iload g dL_act_360 rfl ?_
                refine z_bipush (v := 27) g dL_act_362 (by decide) ?_
                refine z_icmp_ge (tgt := 438) g dL_act_364 (by decide) (fun c_364 => ?_) (fun c_364 => ?_)
                · refine z_iload g dL_act_438 rfl ?_
                  refine z_bipush (v := 29) g dL_act_440 (by decide) ?_
                  refine z_icmp_ge (tgt := 461) g dL_act_442 (by decide) (fun c_442 => ?_) (fun c_442 => ?_)
                  · refine z_aload_n g dL_act_461 rfl ?_
                    refine z_bipush (v := 23) g dL_act_462 (by decide) ?_
                    refine z_iconst (v := 0) g dL_act_464 (by decide) ?_
                    refine z_iload g dL_act_465 rfl ?_
                    refine z_iconst (v := 0) g dL_act_467 (by decide) ?_
                    refine z_iload_n g dL_act_468 rfl ?_
                    refine z_iconst (v := 4) g dL_act_469 (by decide) ?_
                    refine z_ishr g dL_act_470 ?_
                    refine z_iload_n g dL_act_471 rfl ?_
                    refine z_callS g _ _ cs_L_148 (c_word1 _ M _) rfl (by rw [hR]; decide) (by rw [hR]; decide) (by rw [hR]; decide) (Nat.le_of_ble_eq_true rfl) rfl dL_act_472 (fun _ _ h => False.elim h) (fun r_472 M_472 h_472 => ?_)
                    obtain ⟨rfl, rfl⟩ := h_472
                    refine z_callSH g _ _ csh_L_does (e_reading _ M hX hV _ _ _ _) rfl (by rw [hR]; decide) (by rw [hR]; decide) (by rw [hR]; decide) (Nat.le_of_ble_eq_true rfl) rfl dL_act_475 (fun _ _ h => False.elim h) (fun r_9 M1 h_9 => ?_)
                    obtain ⟨rfl, hg, hB⟩ := h_9
                    exact z_lret g hrt (by decide) (by decide) dL_act_478 (act_to (by unfold actF; rw [if_pos hodd]; unfold actO; rw [if_neg c_178, if_neg c_183, if_pos c_245, if_pos c_267, if_neg c_306, if_pos c_336, if_pos c_364, if_pos c_442]) hg hB)
                  · refine z_aload_n g dL_act_445 rfl ?_
                    refine z_bipush (v := 7) g dL_act_446 (by decide) ?_
                    refine z_iload g dL_act_448 rfl ?_
                    refine z_iload g dL_act_450 rfl ?_
                    refine z_iload g dL_act_452 rfl ?_
                    refine z_lconst (v := 0) g dL_act_454 (by decide) ?_
                    refine z_callSH g _ _ csh_L_does (e_except _ M hX hV _ _ _ _) rfl (by rw [hR]; decide) (by rw [hR]; decide) (by rw [hR]; decide) (Nat.le_of_ble_eq_true rfl) rfl dL_act_455 (fun _ _ h => False.elim h) (fun r_9 M1 h_9 => ?_)
                    obtain ⟨rfl, hg, hB⟩ := h_9
                    refine z_goto (tgt := 478) g dL_act_458 (by decide) ?_
                    exact z_lret g hrt (by decide) (by decide) dL_act_478 (act_to (by unfold actF; rw [if_pos hodd]; unfold actO; rw [if_neg c_178, if_neg c_183, if_pos c_245, if_pos c_267, if_neg c_306, if_pos c_336, if_pos c_364, if_neg c_442]) hg hB)
                · refine z_aload_n g dL_act_367 rfl ?_
                  refine z_bipush (v := 6) g dL_act_368 (by decide) ?_
                  refine z_iload g dL_act_370 rfl ?_
                  refine z_iload g dL_act_372 rfl ?_
                  refine z_iload_n g dL_act_374 rfl ?_
                  refine z_if_eq (tgt := 389) g dL_act_375 (by decide) (fun c_375 => absurd c_375 (by decide)) (fun _ => ?_)
                  refine z_iload_n g dL_act_378 rfl ?_
                  refine z_iconst (v := 4) g dL_act_379 (by decide) ?_
                  refine z_ishr g dL_act_380 ?_
                  refine z_ldc g dL_act_381 kc_L_152 ?_
                  refine z_callS g _ _ cs_L_140 (c_low _ M _ _ (by decide)) rfl (by rw [hR]; decide) (by rw [hR]; decide) (by rw [hR]; decide) (Nat.le_of_ble_eq_true rfl) rfl dL_act_383 (fun _ _ h => False.elim h) (fun r_383 M_383 h_383 => ?_)
                  obtain ⟨rfl, rfl⟩ := h_383
                  refine z_goto (tgt := 431) g dL_act_386 (by decide) ?_
                  refine z_lconst (v := 0) g dL_act_431 (by decide) ?_
                  refine z_callSH g _ _ csh_L_does (e_law _ M hX hV _ _ _ _) rfl (by rw [hR]; decide) (by rw [hR]; decide) (by rw [hR]; decide) (Nat.le_of_ble_eq_true rfl) rfl dL_act_432 (fun _ _ h => False.elim h) (fun r_9 M1 h_9 => ?_)
                  obtain ⟨rfl, hg, hB⟩ := h_9
                  refine z_goto (tgt := 478) g dL_act_435 (by decide) ?_
                  exact z_lret g hrt (by decide) (by decide) dL_act_478 (act_to (by unfold actF; rw [if_pos hodd]; unfold actO; rw [if_neg c_178, if_neg c_183, if_pos c_245, if_pos c_267, if_neg c_306, if_pos c_336, if_neg c_364]) hg hB)
              · refine z_aload_n g dL_act_339 rfl ?_
                refine z_iconst (v := 5) g dL_act_340 (by decide) ?_
                refine z_iload g dL_act_341 rfl ?_
                refine z_iload g dL_act_343 rfl ?_
                refine z_iload g dL_act_345 rfl ?_
                refine z_iload_n g dL_act_347 rfl ?_
                refine z_iconst (v := 4) g dL_act_348 (by decide) ?_
                refine z_ishr g dL_act_349 ?_
                refine z_iload_n g dL_act_350 rfl ?_
                refine z_callS g _ _ cs_L_148 (c_word1 _ M _) rfl (by rw [hR]; decide) (by rw [hR]; decide) (by rw [hR]; decide) (Nat.le_of_ble_eq_true rfl) rfl dL_act_351 (fun _ _ h => False.elim h) (fun r_351 M_351 h_351 => ?_)
                obtain ⟨rfl, rfl⟩ := h_351
                refine z_callSH g _ _ csh_L_does (e_name _ M hX hV _ _ _ _) rfl (by rw [hR]; decide) (by rw [hR]; decide) (by rw [hR]; decide) (Nat.le_of_ble_eq_true rfl) rfl dL_act_354 (fun _ _ h => False.elim h) (fun r_9 M1 h_9 => ?_)
                obtain ⟨rfl, hg, hB⟩ := h_9
                refine z_goto (tgt := 478) g dL_act_357 (by decide) ?_
                exact z_lret g hrt (by decide) (by decide) dL_act_478 (act_to (by unfold actF; rw [if_pos hodd]; unfold actO; rw [if_neg c_178, if_neg c_183, if_pos c_245, if_pos c_267, if_neg c_306, if_neg c_336]) hg hB)
            · refine z_aload_n g dL_act_309 rfl ?_
              refine z_iconst (v := 3) g dL_act_310 (by decide) ?_
              refine z_iload g dL_act_311 rfl ?_
              refine z_iload_n g dL_act_313 rfl ?_
              refine z_bipush (v := 10) g dL_act_314 (by decide) ?_
              refine z_ishr g dL_act_316 ?_
              refine z_iconst (v := 5) g dL_act_317 (by decide) ?_
              refine z_callS g _ _ cs_L_140 (c_low _ M _ _ (by decide)) rfl (by rw [hR]; decide) (by rw [hR]; decide) (by rw [hR]; decide) (Nat.le_of_ble_eq_true rfl) rfl dL_act_318 (fun _ _ h => False.elim h) (fun r_318 M_318 h_318 => ?_)
              obtain ⟨rfl, rfl⟩ := h_318
              refine z_iconst (v := 1) g dL_act_321 (by decide) ?_
              refine z_isub g dL_act_322 ?_
              refine z_iload g dL_act_323 rfl ?_
              refine z_lconst (v := 0) g dL_act_325 (by decide) ?_
              refine z_callSH g _ _ csh_L_does (e_end _ M hX hV _ _ _ _) rfl (by rw [hR]; decide) (by rw [hR]; decide) (by rw [hR]; decide) (Nat.le_of_ble_eq_true rfl) rfl dL_act_326 (fun _ _ h => False.elim h) (fun r_9 M1 h_9 => ?_)
              obtain ⟨rfl, hg, hB⟩ := h_9
              refine z_goto (tgt := 478) g dL_act_329 (by decide) ?_
              exact z_lret g hrt (by decide) (by decide) dL_act_478 (act_to (by unfold actF; rw [if_pos hodd]; unfold actO; rw [if_neg c_178, if_neg c_183, if_pos c_245, if_pos c_267, if_pos c_306]) hg hB)
          · refine z_aload_n g dL_act_270 rfl ?_
            refine z_iconst (v := 2) g dL_act_271 (by decide) ?_
            refine z_iload g dL_act_272 rfl ?_
            refine z_iload_n g dL_act_274 rfl ?_
            refine z_bipush (v := 10) g dL_act_275 (by decide) ?_
            refine z_ishr g dL_act_277 ?_
            refine z_iload_n g dL_act_278 rfl ?_
            refine z_if_eq (tgt := 287) g dL_act_279 (by decide) (fun c_279 => absurd c_279 (by decide)) (fun _ => ?_)
            refine z_bipush (v := 12) g dL_act_282 (by decide) ?_
            refine z_goto (tgt := 288) g dL_act_284 (by decide) ?_
            refine z_callS g _ _ cs_L_140 (c_low _ M _ _ (by decide)) rfl (by rw [hR]; decide) (by rw [hR]; decide) (by rw [hR]; decide) (Nat.le_of_ble_eq_true rfl) rfl dL_act_288 (fun _ _ h => False.elim h) (fun r_288 M_288 h_288 => ?_)
            obtain ⟨rfl, rfl⟩ := h_288
            refine z_iconst (v := 1) g dL_act_291 (by decide) ?_
            refine z_isub g dL_act_292 ?_
            refine z_iload g dL_act_293 rfl ?_
            refine z_lconst (v := 0) g dL_act_295 (by decide) ?_
            refine z_callSH g _ _ csh_L_does (e_part _ M hX hV _ _ _ _) rfl (by rw [hR]; decide) (by rw [hR]; decide) (by rw [hR]; decide) (Nat.le_of_ble_eq_true rfl) rfl dL_act_296 (fun _ _ h => False.elim h) (fun r_9 M1 h_9 => ?_)
            obtain ⟨rfl, hg, hB⟩ := h_9
            refine z_goto (tgt := 478) g dL_act_299 (by decide) ?_
            exact z_lret g hrt (by decide) (by decide) dL_act_478 (act_to (by unfold actF; rw [if_pos hodd]; unfold actO; rw [if_neg c_178, if_neg c_183, if_pos c_245, if_neg c_267]) hg hB)
        · refine z_aload_n g dL_act_248 rfl ?_
          refine z_iconst (v := 1) g dL_act_249 (by decide) ?_
          refine z_iload g dL_act_250 rfl ?_
          refine z_iload g dL_act_252 rfl ?_
          refine z_iload g dL_act_254 rfl ?_
          refine z_lconst (v := 0) g dL_act_256 (by decide) ?_
          refine z_callSH g _ _ csh_L_does (e_move _ M hX hV _ _ _ _) rfl (by rw [hR]; decide) (by rw [hR]; decide) (by rw [hR]; decide) (Nat.le_of_ble_eq_true rfl) rfl dL_act_257 (fun _ _ h => False.elim h) (fun r_9 M1 h_9 => ?_)
          obtain ⟨rfl, hg, hB⟩ := h_9
          refine z_goto (tgt := 478) g dL_act_260 (by decide) ?_
          exact z_lret g hrt (by decide) (by decide) dL_act_478 (act_to (by unfold actF; rw [if_pos hodd]; unfold actO; rw [if_neg c_178, if_neg c_183, if_neg c_245]) hg hB)
      · refine z_aload_n g dL_act_186 rfl ?_
        refine z_iconst (v := 0) g dL_act_187 (by decide) ?_
        refine z_iload_n g dL_act_188 rfl ?_
        refine z_if_eq (tgt := 206) g dL_act_189 (by decide) (fun c_189 => absurd c_189 (by decide)) (fun _ => ?_)
        refine z_iload_n g dL_act_192 rfl ?_
        refine z_bipush (v := 6) g dL_act_193 (by decide) ?_
        refine z_ishr g dL_act_195 ?_
        refine z_bipush (v := 8) g dL_act_196 (by decide) ?_
        refine z_callS g _ _ cs_L_140 (c_low _ M _ _ (by decide)) rfl (by rw [hR]; decide) (by rw [hR]; decide) (by rw [hR]; decide) (Nat.le_of_ble_eq_true rfl) rfl dL_act_198 (fun _ _ h => False.elim h) (fun r_198 M_198 h_198 => ?_)
        obtain ⟨rfl, rfl⟩ := h_198
        refine z_iconst (v := 1) g dL_act_201 (by decide) ?_
        refine z_isub g dL_act_202 ?_
        refine z_goto (tgt := 225) g dL_act_203 (by decide) ?_
        refine z_iload g dL_act_225 rfl ?_
        refine z_bipush (v := 100) g dL_act_227 (by decide) ?_
        refine z_idiv g dL_act_229 (by decide) ?_
        refine z_iload g dL_act_230 rfl ?_
        refine z_bipush (v := 100) g dL_act_232 (by decide) ?_
        refine z_irem g dL_act_234 (by decide) ?_
        refine z_lconst (v := 0) g dL_act_235 (by decide) ?_
        refine z_callSH g _ _ csh_L_does (e_feature _ M hX hV _ _ _ _) rfl (by rw [hR]; decide) (by rw [hR]; decide) (by rw [hR]; decide) (Nat.le_of_ble_eq_true rfl) rfl dL_act_236 (fun _ _ h => False.elim h) (fun r_9 M1 h_9 => ?_)
        obtain ⟨rfl, hg, hB⟩ := h_9
        refine z_goto (tgt := 478) g dL_act_239 (by decide) ?_
        exact z_lret g hrt (by decide) (by decide) dL_act_478 (act_to (by unfold actF; rw [if_pos hodd]; unfold actO; rw [if_neg c_178, if_pos c_183]) hg hB)
  refine z_iload_n g dL_act_0 rfl ?_
  refine z_bipush (v := 18) g dL_act_1 (by decide) ?_
  refine z_ishr g dL_act_3 ?_
  refine z_bipush (v := 7) g dL_act_4 (by decide) ?_
  refine z_iand g dL_act_6 ?_
  refine z_bipush (v := 7) g dL_act_7 (by decide) ?_
  refine z_icmp_ne (tgt := 16) g dL_act_9 (by decide) (fun c_9 => ?_) (fun c_9 => ?_)
  · refine z_iconst (v := 0) g dL_act_16 (by decide) ?_
    refine z_istore_n g dL_act_17 (by rw [hN]; decide) ?_
    refine z_iload_n g dL_act_18 rfl ?_
    refine z_bipush (v := 64) g dL_act_19 (by decide) ?_
    refine z_callS g _ _ cs_L_140 (c_low _ M _ _ (by decide)) rfl (by rw [hR]; decide) (by rw [hR]; decide) (by rw [hR]; decide) (Nat.le_of_ble_eq_true rfl) rfl dL_act_21 (fun _ _ h => False.elim h) (fun r_21 M_21 h_21 => ?_)
    obtain ⟨rfl, rfl⟩ := h_21
    refine z_istore g dL_act_24 (by rw [hN]; decide) ?_
    refine z_iload_n g dL_act_26 rfl ?_
    refine z_if_eq (tgt := 44) g dL_act_27 (by decide) (fun _ => ?_) (fun c_27 => absurd c_27 (by decide))
    refine z_iload_n g dL_act_44 rfl ?_
    refine z_bipush (v := 6) g dL_act_45 (by decide) ?_
    refine z_ishr g dL_act_47 ?_
    refine z_bipush (v := 8) g dL_act_48 (by decide) ?_
    refine z_callS g _ _ cs_L_140 (c_low _ M _ _ (by decide)) rfl (by rw [hR]; decide) (by rw [hR]; decide) (by rw [hR]; decide) (Nat.le_of_ble_eq_true rfl) rfl dL_act_50 (fun _ _ h => False.elim h) (fun r_50 M_50 h_50 => ?_)
    obtain ⟨rfl, rfl⟩ := h_50
    refine z_istore g dL_act_53 (by rw [hN]; decide) ?_
    refine z_iload_n g dL_act_55 rfl ?_
    refine z_if_eq (tgt := 73) g dL_act_56 (by decide) (fun _ => ?_) (fun c_56 => absurd c_56 (by decide))
    refine z_iload_n g dL_act_73 rfl ?_
    refine z_bipush (v := 9) g dL_act_74 (by decide) ?_
    refine z_ishr g dL_act_76 ?_
    refine z_iconst (v := 2) g dL_act_77 (by decide) ?_
    refine z_callS g _ _ cs_L_140 (c_low _ M _ _ (by decide)) rfl (by rw [hR]; decide) (by rw [hR]; decide) (by rw [hR]; decide) (Nat.le_of_ble_eq_true rfl) rfl dL_act_78 (fun _ _ h => False.elim h) (fun r_78 M_78 h_78 => ?_)
    obtain ⟨rfl, rfl⟩ := h_78
    refine z_istore g dL_act_81 (by rw [hN]; decide) ?_
    refine z_iload_n g dL_act_83 rfl ?_
    refine z_iload_n g dL_act_84 rfl ?_
    refine z_bipush (v := 8) g dL_act_85 (by decide) ?_
    refine z_ishr g dL_act_87 ?_
    refine z_bipush (v := 60) g dL_act_88 (by decide) ?_
    refine z_callS g _ _ cs_L_140 (c_low _ M _ _ (by decide)) rfl (by rw [hR]; decide) (by rw [hR]; decide) (by rw [hR]; decide) (Nat.le_of_ble_eq_true rfl) rfl dL_act_90 (fun _ _ h => False.elim h) (fun r_90 M_90 h_90 => ?_)
    obtain ⟨rfl, rfl⟩ := h_90
    refine z_iadd g dL_act_93 ?_
    refine z_bipush (v := 20) g dL_act_94 (by decide) ?_
    refine z_isub g dL_act_96 ?_
    refine z_istore g dL_act_97 (by rw [hN]; decide) ?_
    refine z_iload_n g dL_act_99 rfl ?_
    refine z_if_eq (tgt := 108) g dL_act_100 (by decide) (fun _ => ?_) (fun c_100 => absurd c_100 (by decide))
    refine z_iload g dL_act_108 rfl ?_
    refine z_if_ge (tgt := 117) g dL_act_110 (by decide) (fun c_110 => ?_) (fun c_110 => ?_)
    · refine z_iload g dL_act_117 rfl ?_
      refine z_sipush (v := 9999) g dL_act_119 (by decide) ?_
      refine z_icmp_le (tgt := 131) g dL_act_122 (by decide) (fun c_122 => ?_) (fun c_122 => ?_)
      · refine z_iload g dL_act_131 rfl ?_
        refine z_istore g dL_act_133 (by rw [hN]; decide) ?_
        exact z_to (tailE _ (by unfold whenE; rw [if_pos c_110, if_pos c_122]) c_9) ⟨rfl, rfl, rfl, rfl, rfl, rfl, rfl, rfl, trivial⟩
      · refine z_sipush (v := 9999) g dL_act_125 (by decide) ?_
        refine z_goto (tgt := 133) g dL_act_128 (by decide) ?_
        refine z_istore g dL_act_133 (by rw [hN]; decide) ?_
        exact z_to (tailE _ (by unfold whenE; rw [if_pos c_110, if_neg c_122]) c_9) ⟨rfl, rfl, rfl, rfl, rfl, rfl, rfl, rfl, trivial⟩
    · refine z_iconst (v := 0) g dL_act_113 (by decide) ?_
      refine z_goto (tgt := 133) g dL_act_114 (by decide) ?_
      refine z_istore g dL_act_133 (by rw [hN]; decide) ?_
      exact z_to (tailE _ (by unfold whenE; rw [if_neg c_110]) c_9) ⟨rfl, rfl, rfl, rfl, rfl, rfl, rfl, rfl, trivial⟩
  · refine z_iconst (v := 1) g dL_act_12 (by decide) ?_
    refine z_goto (tgt := 17) g dL_act_13 (by decide) ?_
    refine z_istore_n g dL_act_17 (by rw [hN]; decide) ?_
    refine z_iload_n g dL_act_18 rfl ?_
    refine z_bipush (v := 64) g dL_act_19 (by decide) ?_
    refine z_callS g _ _ cs_L_140 (c_low _ M _ _ (by decide)) rfl (by rw [hR]; decide) (by rw [hR]; decide) (by rw [hR]; decide) (Nat.le_of_ble_eq_true rfl) rfl dL_act_21 (fun _ _ h => False.elim h) (fun r_21 M_21 h_21 => ?_)
    obtain ⟨rfl, rfl⟩ := h_21
    refine z_istore g dL_act_24 (by rw [hN]; decide) ?_
    refine z_iload_n g dL_act_26 rfl ?_
    refine z_if_eq (tgt := 44) g dL_act_27 (by decide) (fun c_27 => absurd c_27 (by decide)) (fun _ => ?_)
    refine z_iload_n g dL_act_30 rfl ?_
    refine z_bipush (v := 6) g dL_act_31 (by decide) ?_
    refine z_ishr g dL_act_33 ?_
    refine z_bipush (v := 12) g dL_act_34 (by decide) ?_
    refine z_callS g _ _ cs_L_140 (c_low _ M _ _ (by decide)) rfl (by rw [hR]; decide) (by rw [hR]; decide) (by rw [hR]; decide) (Nat.le_of_ble_eq_true rfl) rfl dL_act_36 (fun _ _ h => False.elim h) (fun r_36 M_36 h_36 => ?_)
    obtain ⟨rfl, rfl⟩ := h_36
    refine z_iconst (v := 1) g dL_act_39 (by decide) ?_
    refine z_isub g dL_act_40 ?_
    refine z_goto (tgt := 53) g dL_act_41 (by decide) ?_
    refine z_istore g dL_act_53 (by rw [hN]; decide) ?_
    refine z_iload_n g dL_act_55 rfl ?_
    refine z_if_eq (tgt := 73) g dL_act_56 (by decide) (fun c_56 => absurd c_56 (by decide)) (fun _ => ?_)
    refine z_iload_n g dL_act_59 rfl ?_
    refine z_bipush (v := 9) g dL_act_60 (by decide) ?_
    refine z_ishr g dL_act_62 ?_
    refine z_bipush (v := 6) g dL_act_63 (by decide) ?_
    refine z_callS g _ _ cs_L_140 (c_low _ M _ _ (by decide)) rfl (by rw [hR]; decide) (by rw [hR]; decide) (by rw [hR]; decide) (Nat.le_of_ble_eq_true rfl) rfl dL_act_65 (fun _ _ h => False.elim h) (fun r_65 M_65 h_65 => ?_)
    obtain ⟨rfl, rfl⟩ := h_65
    refine z_iconst (v := 1) g dL_act_68 (by decide) ?_
    refine z_isub g dL_act_69 ?_
    refine z_goto (tgt := 81) g dL_act_70 (by decide) ?_
    refine z_istore g dL_act_81 (by rw [hN]; decide) ?_
    refine z_iload_n g dL_act_83 rfl ?_
    refine z_iload_n g dL_act_84 rfl ?_
    refine z_bipush (v := 8) g dL_act_85 (by decide) ?_
    refine z_ishr g dL_act_87 ?_
    refine z_bipush (v := 60) g dL_act_88 (by decide) ?_
    refine z_callS g _ _ cs_L_140 (c_low _ M _ _ (by decide)) rfl (by rw [hR]; decide) (by rw [hR]; decide) (by rw [hR]; decide) (Nat.le_of_ble_eq_true rfl) rfl dL_act_90 (fun _ _ h => False.elim h) (fun r_90 M_90 h_90 => ?_)
    obtain ⟨rfl, rfl⟩ := h_90
    refine z_iadd g dL_act_93 ?_
    refine z_bipush (v := 20) g dL_act_94 (by decide) ?_
    refine z_isub g dL_act_96 ?_
    refine z_istore g dL_act_97 (by rw [hN]; decide) ?_
    refine z_iload_n g dL_act_99 rfl ?_
    refine z_if_eq (tgt := 108) g dL_act_100 (by decide) (fun c_100 => absurd c_100 (by decide)) (fun _ => ?_)
    refine z_iload g dL_act_103 rfl ?_
    refine z_goto (tgt := 133) g dL_act_105 (by decide) ?_
    refine z_istore g dL_act_133 (by rw [hN]; decide) ?_
    exact z_to (tailO _ rfl c_9) ⟨rfl, rfl, rfl, rfl, rfl, rfl, rfl, rfl, trivial⟩
