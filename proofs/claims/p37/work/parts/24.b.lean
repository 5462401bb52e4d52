theorem z_to {X : Cx} {M : Mm} {cs sl pc : Nat} {L L' : List (Nat × Value)} {st : List Value} (kk : Z X M cs sl pc L' st) (hs : lsub L L') : Z X M cs sl pc L st := z_loc hs kk
def elt (M : Mm) (a i : Nat) : Nat := (fR M a i).getD 0
def LK (M : Mm) (a c : Nat) : Prop := 400 ≤ kd M a % 1000 ∧ ln M a < 150 ∧ ∀ i, i < ln M a → fR M a i = some (elt M a i) ∧ kd M (elt M a i) % 1000 = c
def ansO (v : Option Nat) (M : Mm) : Option Value → Mm → Prop := fun r M' => r = some (va_rf v) ∧ M = M'
theorem c_getL (E : Ev) (M : Mm) (a i : Nat) {c : Nat} (h : LK M a c) (hi : i < ln M a) : CT E yJx4a65c_get_915e3 cJx4a65c_get_915e3 2 (some (.object "java/lang/Object")) 3 0 0 [.ref a, .int (nI i)] M (ansR (elt M a i) M) noX :=
  c_alget E M a i _ h.1 hi (by have := h.2.1; omega) (h.2.2 i hi).1
def hEnd (M : Mm) (f : Nat) (d k : Int32) : Bool := !decide (fI M f 7 = 0) && (!decide (k < fI M f 8) && !decide (d < fI M f 9))
def isTh (M : Mm) (f : Nat) (d k : Int32) : Bool := !decide (d < fI M f 1) && (!decide (k < fI M f 1) && !hEnd M f d k)
def cnts (M : Mm) (e : Nat) (k : Int32) : Bool := !decide (k < fI M e 3) && (decide (fI M e 4 = 0) || !decide (fI M e 5 ≤ k))
def vOn (M : Mm) (l : Nat) (d k : Int32) : Nat → Int32 × Int32
  | 0 => (-1, -1)
  | n + 1 => if ¬ d < fI M (elt M l n) 1 ∧ ¬ k < fI M (elt M l n) 2 ∧ ¬ fI M (elt M l n) 1 < (vOn M l d k n).1 then (fI M (elt M l n) 1, fI M (elt M l n) 0) else vOn M l d k n
def nlat (M : Mm) (e : Nat) : Option Nat → Bool
  | none => true
  | some q => !decide (fI M e 2 < fI M q 2)
def nOn (M : Mm) (l : Nat) (t d k : Int32) : Nat → Option Nat
  | 0 => none
  | n + 1 => if fI M (elt M l n) 0 = t ∧ ¬ d < fI M (elt M l n) 2 ∧ ¬ b2i (cnts M (elt M l n) k) = 0 ∧ nlat M (elt M l n) (nOn M l t d k n) = true then some (elt M l n) else nOn M l t d k n
theorem nOn_mem {M : Mm} {l : Nat} {t d k : Int32} : ∀ {n q : Nat}, nOn M l t d k n = some q → ∃ i, i < n ∧ q = elt M l i
  | 0, q, h => nomatch h
  | n + 1, q, h => by
    unfold nOn at h
    split at h
    · cases h; exact ⟨n, by omega, rfl⟩
    · obtain ⟨i, h1, h2⟩ := nOn_mem h
      exact ⟨i, by omega, h2⟩
def xFr (M : Mm) (l : Nat) (t k : Int32) : Nat → Int32
  | 0 => 10000
  | n + 1 => if fI M (elt M l n) 0 = t ∧ ¬ k < fI M (elt M l n) 2 then (if fI M (elt M l n) 1 < xFr M l t k n then fI M (elt M l n) 1 else xFr M l t k n) else xFr M l t k n
def hBeen (M : Mm) (l : Nat) (w : Int64) : Nat → Bool
  | 0 => false
  | n + 1 => hBeen M l w n || decide (fL M (elt M l n) 1 = w)
set_option maxHeartbeats 4000000 in
set_option maxRecDepth 100000 in
theorem c_cnts (E : Ev) (M : Mm) (e : Nat) (k1 : kd M e % 1000 = 7) (k : Int32) : CT E yX6_counts cX6_counts 2 (some .boolean) 1 0 0 [.ref e, .int k] M (ansI (b2i (cnts M e k)) M) noX := by
  refine CT.of rfl (Nat.le_of_ble_eq_true rfl) (fun X g hrt hno hE hN hR hI => ?_)
  subst hE
  refine z_aload_n g dX6_counts_0 rfl ?_
  refine z_getI g fl_X6_20 (by assumption) (by decide) rfl dX6_counts_1 ?_
  refine z_iload_n g dX6_counts_4 rfl ?_
  refine z_icmp_gt (tgt := 27) g dX6_counts_5 (by decide) (fun c_5 => ?_) (fun c_5 => ?_)
  · refine z_iconst (v := 0) g dX6_counts_27 (by decide) ?_
    exact z_iret g hrt (by decide) (by decide) (by decide) dX6_counts_28 ⟨by simp [cnts, b2i, c_5], rfl⟩
  · refine z_aload_n g dX6_counts_8 rfl ?_
    refine z_getI g fl_X6_23 (by assumption) (by decide) rfl dX6_counts_9 ?_
    refine z_if_eq (tgt := 23) g dX6_counts_12 (by decide) (fun c_12 => ?_) (fun c_12 => ?_)
    · refine z_iconst (v := 1) g dX6_counts_23 (by decide) ?_
      refine z_goto (tgt := 28) g dX6_counts_24 (by decide) ?_
      exact z_iret g hrt (by decide) (by decide) (by decide) dX6_counts_28 ⟨by simp [cnts, b2i, c_5, c_12], rfl⟩
    · refine z_aload_n g dX6_counts_15 rfl ?_
      refine z_getI g fl_X6_27 (by assumption) (by decide) rfl dX6_counts_16 ?_
      refine z_iload_n g dX6_counts_19 rfl ?_
      refine z_icmp_le (tgt := 27) g dX6_counts_20 (by decide) (fun c_20 => ?_) (fun c_20 => ?_)
      · refine z_iconst (v := 0) g dX6_counts_27 (by decide) ?_
        exact z_iret g hrt (by decide) (by decide) (by decide) dX6_counts_28 ⟨by simp [cnts, b2i, c_5, c_12, c_20], rfl⟩
      · refine z_iconst (v := 1) g dX6_counts_23 (by decide) ?_
        refine z_goto (tgt := 28) g dX6_counts_24 (by decide) ?_
        exact z_iret g hrt (by decide) (by decide) (by decide) dX6_counts_28 ⟨by simp [cnts, b2i, c_5, c_12, c_20], rfl⟩
set_option maxHeartbeats 4000000 in
set_option maxRecDepth 100000 in
theorem c_hEnd (E : Ev) (M : Mm) (f : Nat) (k1 : kd M f % 1000 = 4) (d k : Int32) : CT E yX3_hasEnded cX3_hasEnded 3 (some .boolean) 1 0 0 [.ref f, .int d, .int k] M (ansI (b2i (hEnd M f d k)) M) noX := by
  refine CT.of rfl (Nat.le_of_ble_eq_true rfl) (fun X g hrt hno hE hN hR hI => ?_)
  subst hE
  refine z_aload_n g dX3_hasEnded_0 rfl ?_
  refine z_getI g fl_X3_45 (by assumption) (by decide) rfl dX3_hasEnded_1 ?_
  refine z_if_eq (tgt := 27) g dX3_hasEnded_4 (by decide) (fun c_4 => ?_) (fun c_4 => ?_)
  · refine z_iconst (v := 0) g dX3_hasEnded_27 (by decide) ?_
    exact z_iret g hrt (by decide) (by decide) (by decide) dX3_hasEnded_28 ⟨by simp [hEnd, b2i, c_4], rfl⟩
  · refine z_aload_n g dX3_hasEnded_7 rfl ?_
    refine z_getI g fl_X3_49 (by assumption) (by decide) rfl dX3_hasEnded_8 ?_
    refine z_iload_n g dX3_hasEnded_11 rfl ?_
    refine z_icmp_gt (tgt := 27) g dX3_hasEnded_12 (by decide) (fun c_12 => ?_) (fun c_12 => ?_)
    · refine z_iconst (v := 0) g dX3_hasEnded_27 (by decide) ?_
      exact z_iret g hrt (by decide) (by decide) (by decide) dX3_hasEnded_28 ⟨by simp [hEnd, b2i, c_4, c_12], rfl⟩
    · refine z_aload_n g dX3_hasEnded_15 rfl ?_
      refine z_getI g fl_X3_52 (by assumption) (by decide) rfl dX3_hasEnded_16 ?_
      refine z_iload_n g dX3_hasEnded_19 rfl ?_
      refine z_icmp_gt (tgt := 27) g dX3_hasEnded_20 (by decide) (fun c_20 => ?_) (fun c_20 => ?_)
      · refine z_iconst (v := 0) g dX3_hasEnded_27 (by decide) ?_
        exact z_iret g hrt (by decide) (by decide) (by decide) dX3_hasEnded_28 ⟨by simp [hEnd, b2i, c_4, c_12, c_20], rfl⟩
      · refine z_iconst (v := 1) g dX3_hasEnded_23 (by decide) ?_
        refine z_goto (tgt := 28) g dX3_hasEnded_24 (by decide) ?_
        exact z_iret g hrt (by decide) (by decide) (by decide) dX3_hasEnded_28 ⟨by simp [hEnd, b2i, c_4, c_12, c_20], rfl⟩
set_option maxHeartbeats 4000000 in
set_option maxRecDepth 100000 in
theorem c_isTh (E : Ev) (M : Mm) (f : Nat) (k1 : kd M f % 1000 = 4) (d k : Int32) : CT E yX3_isThere cX3_isThere 3 (some .boolean) 2 0 0 [.ref f, .int d, .int k] M (ansI (b2i (isTh M f d k)) M) noX := by
  refine CT.of rfl (Nat.le_of_ble_eq_true rfl) (fun X g hrt hno hE hN hR hI => ?_)
  subst hE
  refine z_aload_n g dX3_isThere_0 rfl ?_
  refine z_getI g fl_X3_42 (by assumption) (by decide) rfl dX3_isThere_1 ?_
  refine z_iload_n g dX3_isThere_4 rfl ?_
  refine z_icmp_gt (tgt := 29) g dX3_isThere_5 (by decide) (fun c_5 => ?_) (fun c_5 => ?_)
  · refine z_iconst (v := 0) g dX3_isThere_29 (by decide) ?_
    exact z_iret g hrt (by decide) (by decide) (by decide) dX3_isThere_30 ⟨by first | (simp [isTh, b2i, c_5]; done) | (simp [isTh, b2i, c_5, c_13]; done) | (have h9 := b2i_0.mp c_22; simp [isTh, b2i, c_5, c_13, h9]; done) | (have h9 := b2i_n0.mp c_22; simp [isTh, b2i, c_5, c_13, h9]; done), rfl⟩
  · refine z_aload_n g dX3_isThere_8 rfl ?_
    refine z_getI g fl_X3_42 (by assumption) (by decide) rfl dX3_isThere_9 ?_
    refine z_iload_n g dX3_isThere_12 rfl ?_
    refine z_icmp_gt (tgt := 29) g dX3_isThere_13 (by decide) (fun c_13 => ?_) (fun c_13 => ?_)
    · refine z_iconst (v := 0) g dX3_isThere_29 (by decide) ?_
      exact z_iret g hrt (by decide) (by decide) (by decide) dX3_isThere_30 ⟨by first | (simp [isTh, b2i, c_5]; done) | (simp [isTh, b2i, c_5, c_13]; done) | (have h9 := b2i_0.mp c_22; simp [isTh, b2i, c_5, c_13, h9]; done) | (have h9 := b2i_n0.mp c_22; simp [isTh, b2i, c_5, c_13, h9]; done), rfl⟩
    · refine z_aload_n g dX3_isThere_16 rfl ?_
      refine z_iload_n g dX3_isThere_17 rfl ?_
      refine z_iload_n g dX3_isThere_18 rfl ?_
      refine z_callV g _ _ cv_X3_55 (c_hEnd _ M f k1 d k) (by assumption) (by decide) rfl (by rw [hR]; decide) (by rw [hR]; decide) (by rw [hR]; decide) (Nat.le_of_ble_eq_true rfl) rfl dX3_isThere_19 (fun _ _ h => False.elim h) (fun r_19 M_19 h_19 => ?_)
      obtain ⟨rfl, rfl⟩ := h_19
      refine z_if_ne (tgt := 29) g dX3_isThere_22 (by decide) (fun c_22 => ?_) (fun c_22 => ?_)
      · refine z_iconst (v := 0) g dX3_isThere_29 (by decide) ?_
        exact z_iret g hrt (by decide) (by decide) (by decide) dX3_isThere_30 ⟨by first | (simp [isTh, b2i, c_5]; done) | (simp [isTh, b2i, c_5, c_13]; done) | (have h9 := b2i_0.mp c_22; simp [isTh, b2i, c_5, c_13, h9]; done) | (have h9 := b2i_n0.mp c_22; simp [isTh, b2i, c_5, c_13, h9]; done), rfl⟩
      · refine z_iconst (v := 1) g dX3_isThere_25 (by decide) ?_
        refine z_goto (tgt := 30) g dX3_isThere_26 (by decide) ?_
        exact z_iret g hrt (by decide) (by decide) (by decide) dX3_isThere_30 ⟨by first | (simp [isTh, b2i, c_5]; done) | (simp [isTh, b2i, c_5, c_13]; done) | (have h9 := b2i_0.mp c_22; simp [isTh, b2i, c_5, c_13, h9]; done) | (have h9 := b2i_n0.mp c_22; simp [isTh, b2i, c_5, c_13, h9]; done), rfl⟩
set_option maxHeartbeats 4000000 in
set_option maxRecDepth 100000 in
theorem c_isDsp (E : Ev) (M : Mm) (f : Nat) (k1 : kd M f % 1000 = 4) : CT E yX3_isDisputed cX3_isDisputed 1 (some .boolean) 1 0 0 [.ref f] M (ansI (b2i (!decide (fI M f 11 = fI M f 12))) M) noX := by
  refine CT.of rfl (Nat.le_of_ble_eq_true rfl) (fun X g hrt hno hE hN hR hI => ?_)
  subst hE
  refine z_aload_n g dX3_isDisputed_0 rfl ?_
  refine z_getI g fl_X3_96 (by assumption) (by decide) rfl dX3_isDisputed_1 ?_
  refine z_aload_n g dX3_isDisputed_4 rfl ?_
  refine z_getI g fl_X3_99 (by assumption) (by decide) rfl dX3_isDisputed_5 ?_
  refine z_icmp_eq (tgt := 15) g dX3_isDisputed_8 (by decide) (fun c_8 => ?_) (fun c_8 => ?_)
  · refine z_iconst (v := 0) g dX3_isDisputed_15 (by decide) ?_
    exact z_iret g hrt (by decide) (by decide) (by decide) dX3_isDisputed_16 ⟨by simp [b2i, c_8], rfl⟩
  · refine z_iconst (v := 1) g dX3_isDisputed_11 (by decide) ?_
    refine z_goto (tgt := 16) g dX3_isDisputed_12 (by decide) ?_
    exact z_iret g hrt (by decide) (by decide) (by decide) dX3_isDisputed_16 ⟨by simp [b2i, c_8], rfl⟩
def dTg (M : Mm) (f : Nat) (t : Int32) : Int32 := if t = fI M f 11 ∨ t = fI M f 12 then t else if fI M f 12 < fI M f 11 then fI M f 12 else fI M f 11
set_option maxHeartbeats 4000000 in
set_option maxRecDepth 100000 in
theorem c_dTg (E : Ev) (M : Mm) (f : Nat) (k1 : kd M f % 1000 = 4) (t : Int32) : CT E yX3_disputedTongueFor cX3_disputedTongueFor 3 (some .int) 2 0 0 [.ref f, .int t] M (ansI (dTg M f t) M) noX := by
  refine CT.of rfl (Nat.le_of_ble_eq_true rfl) (fun X g hrt hno hE hN hR hI => ?_)
  subst hE
  refine z_iload_n g dX3_disputedTongueFor_0 rfl ?_
  refine z_aload_n g dX3_disputedTongueFor_1 rfl ?_
  refine z_getI g fl_X3_96 (by assumption) (by decide) rfl dX3_disputedTongueFor_2 ?_
  refine z_icmp_eq (tgt := 16) g dX3_disputedTongueFor_5 (by decide) (fun c_5 => ?_) (fun c_5 => ?_)
  · refine z_iconst (v := 1) g dX3_disputedTongueFor_16 (by decide) ?_
    refine z_goto (tgt := 21) g dX3_disputedTongueFor_17 (by decide) ?_
    refine z_istore_n g dX3_disputedTongueFor_21 (by rw [hN]; decide) ?_
    refine z_iload_n g dX3_disputedTongueFor_22 rfl ?_
    refine z_if_eq (tgt := 30) g dX3_disputedTongueFor_23 (by decide) (fun c_23 => ?_) (fun c_23 => ?_)
    · refine z_aload_n g dX3_disputedTongueFor_30 rfl ?_
      refine z_getI g fl_X3_96 (by assumption) (by decide) rfl dX3_disputedTongueFor_31 ?_
      refine z_aload_n g dX3_disputedTongueFor_34 rfl ?_
      refine z_getI g fl_X3_99 (by assumption) (by decide) rfl dX3_disputedTongueFor_35 ?_
      refine z_mmin g ml_X3_90 (by rw [hR]; decide) (by rw [hR]; decide) (by rw [hR]; decide) (by rw [hR]; decide) dX3_disputedTongueFor_38 ?_
      exact z_iret g hrt rfl (by decide) (by decide) dX3_disputedTongueFor_41 ⟨by first | (simp [dTg, c_5, c_23]; done) | exact absurd c_23 (by decide), rfl⟩
    · refine z_iload_n g dX3_disputedTongueFor_26 rfl ?_
      refine z_goto (tgt := 41) g dX3_disputedTongueFor_27 (by decide) ?_
      exact z_iret g hrt rfl (by decide) (by decide) dX3_disputedTongueFor_41 ⟨by first | (simp [dTg, c_5, c_23]; done) | exact absurd c_23 (by decide), rfl⟩
  · refine z_iload_n g dX3_disputedTongueFor_8 rfl ?_
    refine z_aload_n g dX3_disputedTongueFor_9 rfl ?_
    refine z_getI g fl_X3_99 (by assumption) (by decide) rfl dX3_disputedTongueFor_10 ?_
    refine z_icmp_ne (tgt := 20) g dX3_disputedTongueFor_13 (by decide) (fun c_13 => ?_) (fun c_13 => ?_)
    · refine z_iconst (v := 0) g dX3_disputedTongueFor_20 (by decide) ?_
      refine z_istore_n g dX3_disputedTongueFor_21 (by rw [hN]; decide) ?_
      refine z_iload_n g dX3_disputedTongueFor_22 rfl ?_
      refine z_if_eq (tgt := 30) g dX3_disputedTongueFor_23 (by decide) (fun c_23 => ?_) (fun c_23 => ?_)
      · refine z_aload_n g dX3_disputedTongueFor_30 rfl ?_
        refine z_getI g fl_X3_96 (by assumption) (by decide) rfl dX3_disputedTongueFor_31 ?_
        refine z_aload_n g dX3_disputedTongueFor_34 rfl ?_
        refine z_getI g fl_X3_99 (by assumption) (by decide) rfl dX3_disputedTongueFor_35 ?_
        refine z_mmin g ml_X3_90 (by rw [hR]; decide) (by rw [hR]; decide) (by rw [hR]; decide) (by rw [hR]; decide) dX3_disputedTongueFor_38 ?_
        exact z_iret g hrt rfl (by decide) (by decide) dX3_disputedTongueFor_41 ⟨by first | (simp [dTg, c_5, c_13, c_23]; done) | exact absurd c_23 (by decide), rfl⟩
      · refine z_iload_n g dX3_disputedTongueFor_26 rfl ?_
        refine z_goto (tgt := 41) g dX3_disputedTongueFor_27 (by decide) ?_
        exact z_iret g hrt rfl (by decide) (by decide) dX3_disputedTongueFor_41 ⟨by first | (simp [dTg, c_5, c_13, c_23]; done) | exact absurd c_23 (by decide), rfl⟩
    · refine z_iconst (v := 1) g dX3_disputedTongueFor_16 (by decide) ?_
      refine z_goto (tgt := 21) g dX3_disputedTongueFor_17 (by decide) ?_
      refine z_istore_n g dX3_disputedTongueFor_21 (by rw [hN]; decide) ?_
      refine z_iload_n g dX3_disputedTongueFor_22 rfl ?_
      refine z_if_eq (tgt := 30) g dX3_disputedTongueFor_23 (by decide) (fun c_23 => ?_) (fun c_23 => ?_)
      · refine z_aload_n g dX3_disputedTongueFor_30 rfl ?_
        refine z_getI g fl_X3_96 (by assumption) (by decide) rfl dX3_disputedTongueFor_31 ?_
        refine z_aload_n g dX3_disputedTongueFor_34 rfl ?_
        refine z_getI g fl_X3_99 (by assumption) (by decide) rfl dX3_disputedTongueFor_35 ?_
        refine z_mmin g ml_X3_90 (by rw [hR]; decide) (by rw [hR]; decide) (by rw [hR]; decide) (by rw [hR]; decide) dX3_disputedTongueFor_38 ?_
        exact z_iret g hrt rfl (by decide) (by decide) dX3_disputedTongueFor_41 ⟨by first | (simp [dTg, c_5, c_13, c_23]; done) | exact absurd c_23 (by decide), rfl⟩
      · refine z_iload_n g dX3_disputedTongueFor_26 rfl ?_
        refine z_goto (tgt := 41) g dX3_disputedTongueFor_27 (by decide) ?_
        exact z_iret g hrt rfl (by decide) (by decide) dX3_disputedTongueFor_41 ⟨by first | (simp [dTg, c_5, c_13, c_23]; done) | exact absurd c_23 (by decide), rfl⟩
set_option maxHeartbeats 4000000 in
set_option maxRecDepth 100000 in
theorem c_vOn (E : Ev) (M : Mm) (h l : Nat) (k1 : kd M h % 1000 = 5) (hh : fR M h 0 = some l) (hl : LK M l 2) (d kn : Int32) : CT E yX4_valueOn cX4_valueOn 7 (some .int) 4 0 0 [.ref h, .int d, .int kn] M (ansI (vOn M l d kn (ln M l)).2 M) noX := by
  refine CT.of rfl (Nat.le_of_ble_eq_true rfl) (fun X g hrt hno hE hN hR hI => ?_)
  subst hE
  have hl150 := hl.2.1
  have hl400 := hl.1
  have loop : ∀ (k j : Nat) (hk : k + j = ln M l), Z X M 0 0 8 [(0, .ref h), (1, .int d), (2, .int kn), (3, .int (vOn M l d kn j).1), (4, .int (vOn M l d kn j).2), (5, .int (nI j))] [] := by
    intro k
    induction k using Nat.strongRecOn with
    | _ k ih =>
      intro j hk
      refine z_iload g dX4_valueOn_8 rfl ?_
      refine z_aload_n g dX4_valueOn_10 rfl ?_
      refine z_getR g fl_X4_12 (by assumption) (by decide) rfl (by assumption) dX4_valueOn_11 ?_
      refine z_callL g _ _ cv_X4_18 rfl (c_alsize _ M l hl.1) (by assumption) rfl (by rw [hR]; decide) (by rw [hR]; decide) (by rw [hR]; decide) (Nat.le_of_ble_eq_true rfl) rfl dX4_valueOn_14 (fun _ _ h => False.elim h) (fun r_14 M_14 h_14 => ?_)
      obtain ⟨rfl, rfl⟩ := h_14
      refine z_icmp_ge (tgt := 80) g dX4_valueOn_17 (by decide) (fun c_17 => ?_) (fun c_17 => ?_)
      · rw [nI_leI (by omega) (by omega)] at c_17
        rw [show j = ln M l by omega]
        refine z_iload g dX4_valueOn_80 rfl ?_
        exact z_iret g hrt rfl (by decide) (by decide) dX4_valueOn_82 ⟨rfl, rfl⟩
      have h17 : j < ln M l := by rw [nI_leI (by omega) (by omega)] at c_17; omega
      refine z_aload_n g dX4_valueOn_20 rfl ?_
      refine z_getR g fl_X4_12 (by assumption) (by decide) rfl (by assumption) dX4_valueOn_21 ?_
      refine z_iload g dX4_valueOn_24 rfl ?_
      refine z_callL g _ _ cv_X4_31 rfl (c_getL _ M l j hl h17) (by assumption) rfl (by rw [hR]; decide) (by rw [hR]; decide) (by rw [hR]; decide) (Nat.le_of_ble_eq_true rfl) rfl dX4_valueOn_26 (fun _ _ h => False.elim h) (fun r_26 M_26 h_26 => ?_)
      obtain ⟨rfl, rfl⟩ := h_26
      have k2 : kd M (elt M l j) % 1000 = 2 := (hl.2.2 j h17).2
      refine z_cast (b := 2) g cl_X4_22 rfl (by assumption) (by decide) dX4_valueOn_29 ?_
      refine z_astore g dX4_valueOn_32 (by rw [hN]; decide) ?_
      refine z_aload g dX4_valueOn_34 rfl ?_
      refine z_getI g fl_X4_35 (by assumption) (by decide) rfl dX4_valueOn_36 ?_
      refine z_iload_n g dX4_valueOn_39 rfl ?_
      refine z_icmp_gt (tgt := 74) g dX4_valueOn_40 (by decide) (fun c_40 => ?_) (fun c_40 => ?_)
      · refine z_iinc1 g dX4_valueOn_74 rfl (by rw [hN]; decide) ?_
        refine z_goto (tgt := 8) g dX4_valueOn_77 (by decide) ?_
        have hs := ih (k - 1) (by omega) (j + 1) (by omega)
        rw [nI_s]
        first
          | (rw [show vOn M l d kn (j + 1) = (fI M (elt M l j) 1, fI M (elt M l j) 0) from if_pos ⟨c_40, c_49, c_58⟩] at hs
             exact z_to hs ⟨rfl, rfl, rfl, rfl, rfl, rfl, trivial⟩)
          | (rw [show vOn M l d kn (j + 1) = vOn M l d kn j from if_neg (fun z => by first | exact z.1 c_40 | exact z.2.1 c_49 | exact z.2.2 c_58)] at hs
             exact z_to hs ⟨rfl, rfl, rfl, rfl, rfl, rfl, trivial⟩)
      · refine z_aload g dX4_valueOn_43 rfl ?_
        refine z_getI g fl_X4_39 (by assumption) (by decide) rfl dX4_valueOn_45 ?_
        refine z_iload_n g dX4_valueOn_48 rfl ?_
        refine z_icmp_gt (tgt := 74) g dX4_valueOn_49 (by decide) (fun c_49 => ?_) (fun c_49 => ?_)
        · refine z_iinc1 g dX4_valueOn_74 rfl (by rw [hN]; decide) ?_
          refine z_goto (tgt := 8) g dX4_valueOn_77 (by decide) ?_
          have hs := ih (k - 1) (by omega) (j + 1) (by omega)
          rw [nI_s]
          first
            | (rw [show vOn M l d kn (j + 1) = (fI M (elt M l j) 1, fI M (elt M l j) 0) from if_pos ⟨c_40, c_49, c_58⟩] at hs
               exact z_to hs ⟨rfl, rfl, rfl, rfl, rfl, rfl, trivial⟩)
            | (rw [show vOn M l d kn (j + 1) = vOn M l d kn j from if_neg (fun z => by first | exact z.1 c_40 | exact z.2.1 c_49 | exact z.2.2 c_58)] at hs
               exact z_to hs ⟨rfl, rfl, rfl, rfl, rfl, rfl, trivial⟩)
        · refine z_aload g dX4_valueOn_52 rfl ?_
          refine z_getI g fl_X4_35 (by assumption) (by decide) rfl dX4_valueOn_54 ?_
          refine z_iload_n g dX4_valueOn_57 rfl ?_
          refine z_icmp_lt (tgt := 74) g dX4_valueOn_58 (by decide) (fun c_58 => ?_) (fun c_58 => ?_)
          · refine z_iinc1 g dX4_valueOn_74 rfl (by rw [hN]; decide) ?_
            refine z_goto (tgt := 8) g dX4_valueOn_77 (by decide) ?_
            have hs := ih (k - 1) (by omega) (j + 1) (by omega)
            rw [nI_s]
            first
              | (rw [show vOn M l d kn (j + 1) = (fI M (elt M l j) 1, fI M (elt M l j) 0) from if_pos ⟨c_40, c_49, c_58⟩] at hs
                 exact z_to hs ⟨rfl, rfl, rfl, rfl, rfl, rfl, trivial⟩)
              | (rw [show vOn M l d kn (j + 1) = vOn M l d kn j from if_neg (fun z => by first | exact z.1 c_40 | exact z.2.1 c_49 | exact z.2.2 c_58)] at hs
                 exact z_to hs ⟨rfl, rfl, rfl, rfl, rfl, rfl, trivial⟩)
          · refine z_aload g dX4_valueOn_61 rfl ?_
            refine z_getI g fl_X4_35 (by assumption) (by decide) rfl dX4_valueOn_63 ?_
            refine z_istore_n g dX4_valueOn_66 (by rw [hN]; decide) ?_
            refine z_aload g dX4_valueOn_67 rfl ?_
            refine z_getI g fl_X4_42 (by assumption) (by decide) rfl dX4_valueOn_69 ?_
            refine z_istore g dX4_valueOn_72 (by rw [hN]; decide) ?_
            refine z_iinc1 g dX4_valueOn_74 rfl (by rw [hN]; decide) ?_
            refine z_goto (tgt := 8) g dX4_valueOn_77 (by decide) ?_
            have hs := ih (k - 1) (by omega) (j + 1) (by omega)
            rw [nI_s]
            first
              | (rw [show vOn M l d kn (j + 1) = (fI M (elt M l j) 1, fI M (elt M l j) 0) from if_pos ⟨c_40, c_49, c_58⟩] at hs
                 exact z_to hs ⟨rfl, rfl, rfl, rfl, rfl, rfl, trivial⟩)
              | (rw [show vOn M l d kn (j + 1) = vOn M l d kn j from if_neg (fun z => by first | exact z.1 c_40 | exact z.2.1 c_49 | exact z.2.2 c_58)] at hs
                 exact z_to hs ⟨rfl, rfl, rfl, rfl, rfl, rfl, trivial⟩)
  refine z_iconst (v := (-1)) g dX4_valueOn_0 (by decide) ?_
  refine z_istore_n g dX4_valueOn_1 (by rw [hN]; decide) ?_
  refine z_iconst (v := (-1)) g dX4_valueOn_2 (by decide) ?_
  refine z_istore g dX4_valueOn_3 (by rw [hN]; decide) ?_
  refine z_iconst (v := 0) g dX4_valueOn_5 (by decide) ?_
  refine z_istore g dX4_valueOn_6 (by rw [hN]; decide) ?_
  exact z_to (loop (ln M l) 0 rfl) ⟨rfl, rfl, rfl, rfl, rfl, rfl, trivial⟩
set_option maxHeartbeats 4000000 in
set_option maxRecDepth 100000 in
theorem c_isFull (E : Ev) (M : Mm) (h l : Nat) (k1 : kd M h % 1000 = 5) (hh : fR M h 0 = some l) (hl4 : 400 ≤ kd M l % 1000) : CT E yX4_isFull cX4_isFull 1 (some .boolean) 2 0 0 [.ref h] M (ansI (b2i (!decide (nI (ln M l) < 40))) M) noX := by
  refine CT.of rfl (Nat.le_of_ble_eq_true rfl) (fun X g hrt hno hE hN hR hI => ?_)
  subst hE
  refine z_aload_n g dX4_isFull_0 rfl ?_
  refine z_getR g fl_X4_12 (by assumption) (by decide) rfl (by assumption) dX4_isFull_1 ?_
  refine z_callL g _ _ cv_X4_18 rfl (c_alsize _ M l hl4) (by assumption) rfl (by rw [hR]; decide) (by rw [hR]; decide) (by rw [hR]; decide) (Nat.le_of_ble_eq_true rfl) rfl dX4_isFull_4 (fun _ _ h => False.elim h) (fun r_4 M_4 h_4 => ?_)
  obtain ⟨rfl, rfl⟩ := h_4
  refine z_bipush (v := 40) g dX4_isFull_7 (by decide) ?_
  refine z_icmp_lt (tgt := 16) g dX4_isFull_9 (by decide) (fun c_9 => ?_) (fun c_9 => ?_)
  · refine z_iconst (v := 0) g dX4_isFull_16 (by decide) ?_
    exact z_iret g hrt (by decide) (by decide) (by decide) dX4_isFull_17 ⟨by simp [b2i, c_9], rfl⟩
  · refine z_iconst (v := 1) g dX4_isFull_12 (by decide) ?_
    refine z_goto (tgt := 17) g dX4_isFull_13 (by decide) ?_
    exact z_iret g hrt (by decide) (by decide) (by decide) dX4_isFull_17 ⟨by simp [b2i, c_9], rfl⟩
set_option maxHeartbeats 4000000 in
set_option maxRecDepth 100000 in
theorem c_xFr (E : Ev) (M : Mm) (f l : Nat) (k1 : kd M f % 1000 = 4) (hf : fR M f 5 = some l) (hl : LK M l 3) (t kn : Int32) : CT E yX3_exemptFrom cX3_exemptFrom 6 (some .int) 4 0 0 [.ref f, .int t, .int kn] M (ansI (xFr M l t kn (ln M l)) M) noX := by
  refine CT.of rfl (Nat.le_of_ble_eq_true rfl) (fun X g hrt hno hE hN hR hI => ?_)
  subst hE
  have hl150 := hl.2.1
  have hl400 := hl.1
  have loop : ∀ (k j : Nat) (hk : k + j = ln M l), Z X M 0 0 7 [(0, .ref f), (1, .int t), (2, .int kn), (3, .int (xFr M l t kn j)), (4, .int (nI j))] [] := by
    intro k
    induction k using Nat.strongRecOn with
    | _ k ih =>
      intro j hk
      refine z_iload g dX3_exemptFrom_7 rfl ?_
      refine z_aload_n g dX3_exemptFrom_9 rfl ?_
      refine z_getR g fl_X3_28 (by assumption) (by decide) rfl (by assumption) dX3_exemptFrom_10 ?_
      refine z_callL g _ _ cv_X3_59 rfl (c_alsize _ M l hl.1) (by assumption) rfl (by rw [hR]; decide) (by rw [hR]; decide) (by rw [hR]; decide) (Nat.le_of_ble_eq_true rfl) rfl dX3_exemptFrom_13 (fun _ _ h => False.elim h) (fun r_13 M_13 h_13 => ?_)
      obtain ⟨rfl, rfl⟩ := h_13
      refine z_icmp_ge (tgt := 67) g dX3_exemptFrom_16 (by decide) (fun c_16 => ?_) (fun c_16 => ?_)
      · rw [nI_leI (by omega) (by omega)] at c_16
        rw [show j = ln M l by omega]
        refine z_iload_n g dX3_exemptFrom_67 rfl ?_
        exact z_iret g hrt rfl (by decide) (by decide) dX3_exemptFrom_68 ⟨rfl, rfl⟩
      have h16 : j < ln M l := by rw [nI_leI (by omega) (by omega)] at c_16; omega
      refine z_aload_n g dX3_exemptFrom_19 rfl ?_
      refine z_getR g fl_X3_28 (by assumption) (by decide) rfl (by assumption) dX3_exemptFrom_20 ?_
      refine z_iload g dX3_exemptFrom_23 rfl ?_
      refine z_callL g _ _ cv_X3_63 rfl (c_getL _ M l j hl h16) (by assumption) rfl (by rw [hR]; decide) (by rw [hR]; decide) (by rw [hR]; decide) (Nat.le_of_ble_eq_true rfl) rfl dX3_exemptFrom_25 (fun _ _ h => False.elim h) (fun r_25 M_25 h_25 => ?_)
      obtain ⟨rfl, rfl⟩ := h_25
      have k2 : kd M (elt M l j) % 1000 = 3 := (hl.2.2 j h16).2
      refine z_cast (b := 3) g cl_X3_83 rfl (by assumption) (by decide) dX3_exemptFrom_28 ?_
      refine z_astore g dX3_exemptFrom_31 (by rw [hN]; decide) ?_
      refine z_aload g dX3_exemptFrom_33 rfl ?_
      refine z_getI g fl_X3_85 (by assumption) (by decide) rfl dX3_exemptFrom_35 ?_
      refine z_iload_n g dX3_exemptFrom_38 rfl ?_
      refine z_icmp_ne (tgt := 61) g dX3_exemptFrom_39 (by decide) (fun c_39 => ?_) (fun c_39 => ?_)
      · refine z_iinc1 g dX3_exemptFrom_61 rfl (by rw [hN]; decide) ?_
        refine z_goto (tgt := 7) g dX3_exemptFrom_64 (by decide) ?_
        have hs := ih (k - 1) (by omega) (j + 1) (by omega)
        rw [nI_s]
        first
          | (rw [show xFr M l t kn (j + 1) = (if fI M (elt M l j) 1 < xFr M l t kn j then fI M (elt M l j) 1 else xFr M l t kn j) from if_pos ⟨c_39, c_48⟩] at hs
             exact z_to hs ⟨rfl, rfl, rfl, rfl, rfl, trivial⟩)
          | (rw [show xFr M l t kn (j + 1) = xFr M l t kn j from if_neg (fun z => by first | exact c_39 z.1 | exact z.2 c_48)] at hs
             exact z_to hs ⟨rfl, rfl, rfl, rfl, rfl, trivial⟩)
      · refine z_aload g dX3_exemptFrom_42 rfl ?_
        refine z_getI g fl_X3_86 (by assumption) (by decide) rfl dX3_exemptFrom_44 ?_
        refine z_iload_n g dX3_exemptFrom_47 rfl ?_
        refine z_icmp_gt (tgt := 61) g dX3_exemptFrom_48 (by decide) (fun c_48 => ?_) (fun c_48 => ?_)
        · refine z_iinc1 g dX3_exemptFrom_61 rfl (by rw [hN]; decide) ?_
          refine z_goto (tgt := 7) g dX3_exemptFrom_64 (by decide) ?_
          have hs := ih (k - 1) (by omega) (j + 1) (by omega)
          rw [nI_s]
          first
            | (rw [show xFr M l t kn (j + 1) = (if fI M (elt M l j) 1 < xFr M l t kn j then fI M (elt M l j) 1 else xFr M l t kn j) from if_pos ⟨c_39, c_48⟩] at hs
               exact z_to hs ⟨rfl, rfl, rfl, rfl, rfl, trivial⟩)
            | (rw [show xFr M l t kn (j + 1) = xFr M l t kn j from if_neg (fun z => by first | exact c_39 z.1 | exact z.2 c_48)] at hs
               exact z_to hs ⟨rfl, rfl, rfl, rfl, rfl, trivial⟩)
        · refine z_iload_n g dX3_exemptFrom_51 rfl ?_
          refine z_aload g dX3_exemptFrom_52 rfl ?_
          refine z_getI g fl_X3_89 (by assumption) (by decide) rfl dX3_exemptFrom_54 ?_
          refine z_mmin g ml_X3_90 (by rw [hR]; decide) (by rw [hR]; decide) (by rw [hR]; decide) (by rw [hR]; decide) dX3_exemptFrom_57 ?_
          refine z_istore_n g dX3_exemptFrom_60 (by rw [hN]; decide) ?_
          refine z_iinc1 g dX3_exemptFrom_61 rfl (by rw [hN]; decide) ?_
          refine z_goto (tgt := 7) g dX3_exemptFrom_64 (by decide) ?_
          have hs := ih (k - 1) (by omega) (j + 1) (by omega)
          rw [nI_s]
          first
            | (rw [show xFr M l t kn (j + 1) = (if fI M (elt M l j) 1 < xFr M l t kn j then fI M (elt M l j) 1 else xFr M l t kn j) from if_pos ⟨c_39, c_48⟩] at hs
               exact z_to hs ⟨rfl, rfl, rfl, rfl, rfl, trivial⟩)
            | (rw [show xFr M l t kn (j + 1) = xFr M l t kn j from if_neg (fun z => by first | exact c_39 z.1 | exact z.2 c_48)] at hs
               exact z_to hs ⟨rfl, rfl, rfl, rfl, rfl, trivial⟩)
  refine z_sipush (v := 10000) g dX3_exemptFrom_0 (by decide) ?_
  refine z_istore_n g dX3_exemptFrom_3 (by rw [hN]; decide) ?_
  refine z_iconst (v := 0) g dX3_exemptFrom_4 (by decide) ?_
  refine z_istore g dX3_exemptFrom_5 (by rw [hN]; decide) ?_
  exact z_to (loop (ln M l) 0 rfl) ⟨rfl, rfl, rfl, rfl, rfl, trivial⟩
theorem hBeen_of {M : Mm} {l : Nat} {w : Int64} : ∀ {n j : Nat}, j < n → fL M (elt M l j) 1 = w → hBeen M l w n = true
  | 0, j, h, _ => absurd h (Nat.not_lt_zero j)
  | n + 1, j, h, e => by
    rw [hBeen]
    rcases Nat.lt_or_ge j n with z | z
    · rw [hBeen_of z e]; rfl
    · rw [show n = j by omega, decide_eq_true e, Bool.or_true]
set_option maxHeartbeats 4000000 in
set_option maxRecDepth 100000 in
theorem c_hBeen (E : Ev) (M : Mm) (f l : Nat) (k1 : kd M f % 1000 = 4) (hf : fR M f 4 = some l) (hl : LK M l 7) (w : Int64) : CT E yX3_hasEverBeen cX3_hasEverBeen 4 (some .boolean) 4 0 0 [.ref f, .long w] M (ansI (b2i (hBeen M l w (ln M l))) M) noX := by
  refine CT.of rfl (Nat.le_of_ble_eq_true rfl) (fun X g hrt hno hE hN hR hI => ?_)
  subst hE
  have hl150 := hl.2.1
  have hl400 := hl.1
  have loop : ∀ (k j : Nat) (hk : k + j = ln M l) (hn : hBeen M l w j = false), Z X M 0 0 2 [(0, .ref f), (1, .long w), (3, .int (nI j))] [] := by
    intro k
    induction k using Nat.strongRecOn with
    | _ k ih =>
      intro j hk hn
      refine z_iload_n g dX3_hasEverBeen_2 rfl ?_
      refine z_aload_n g dX3_hasEverBeen_3 rfl ?_
      refine z_getR g fl_X3_24 (by assumption) (by decide) rfl (by assumption) dX3_hasEverBeen_4 ?_
      refine z_callL g _ _ cv_X3_59 rfl (c_alsize _ M l hl.1) (by assumption) rfl (by rw [hR]; decide) (by rw [hR]; decide) (by rw [hR]; decide) (Nat.le_of_ble_eq_true rfl) rfl dX3_hasEverBeen_7 (fun _ _ h => False.elim h) (fun r_7 M_7 h_7 => ?_)
      obtain ⟨rfl, rfl⟩ := h_7
      refine z_icmp_ge (tgt := 40) g dX3_hasEverBeen_10 (by decide) (fun c_10 => ?_) (fun c_10 => ?_)
      · rw [nI_leI (by omega) (by omega)] at c_10
        rw [show j = ln M l by omega] at hn
        refine z_iconst (v := 0) g dX3_hasEverBeen_40 (by decide) ?_
        exact z_iret g hrt (by decide) (by decide) (by decide) dX3_hasEverBeen_41 ⟨by rw [hn]; rfl, rfl⟩
      have h10 : j < ln M l := by rw [nI_leI (by omega) (by omega)] at c_10; omega
      refine z_aload_n g dX3_hasEverBeen_13 rfl ?_
      refine z_getR g fl_X3_24 (by assumption) (by decide) rfl (by assumption) dX3_hasEverBeen_14 ?_
      refine z_iload_n g dX3_hasEverBeen_17 rfl ?_
      refine z_callL g _ _ cv_X3_63 rfl (c_getL _ M l j hl h10) (by assumption) rfl (by rw [hR]; decide) (by rw [hR]; decide) (by rw [hR]; decide) (Nat.le_of_ble_eq_true rfl) rfl dX3_hasEverBeen_18 (fun _ _ h => False.elim h) (fun r_18 M_18 h_18 => ?_)
      obtain ⟨rfl, rfl⟩ := h_18
      have k2 : kd M (elt M l j) % 1000 = 7 := (hl.2.2 j h10).2
      refine z_cast (b := 7) g cl_X3_67 rfl (by assumption) (by decide) dX3_hasEverBeen_21 ?_
      refine z_getL g fl_X3_79 (by assumption) (by decide) rfl dX3_hasEverBeen_24 ?_
      refine z_lload_n g dX3_hasEverBeen_27 rfl ?_
      refine z_lcmp g dX3_hasEverBeen_28 ?_
      refine z_if_ne (tgt := 34) g dX3_hasEverBeen_29 (by decide) (fun c_29 => ?_) (fun c_29 => ?_)
      · refine z_iinc1 g dX3_hasEverBeen_34 rfl (by rw [hN]; decide) ?_
        refine z_goto (tgt := 2) g dX3_hasEverBeen_37 (by decide) ?_
        rw [nI_s]
        refine z_to (ih (k - 1) (by omega) (j + 1) (by omega) ?_) ⟨rfl, rfl, rfl, trivial⟩
        rw [hBeen, hn, decide_eq_false (fun z => c_29 ((lg_cmp_eq _ _).mpr z))]; rfl
      · refine z_iconst (v := 1) g dX3_hasEverBeen_32 (by decide) ?_
        exact z_iret g hrt (by decide) (by decide) (by decide) dX3_hasEverBeen_33 ⟨by rw [hBeen_of h10 ((lg_cmp_eq _ _).mp c_29)]; rfl, rfl⟩
  refine z_iconst (v := 0) g dX3_hasEverBeen_0 (by decide) ?_
  refine z_istore_n g dX3_hasEverBeen_1 (by rw [hN]; decide) ?_
  exact z_to (loop (ln M l) 0 rfl rfl) ⟨rfl, rfl, rfl, trivial⟩
set_option maxHeartbeats 4000000 in
set_option maxRecDepth 100000 in
theorem c_nOn (E : Ev) (M : Mm) (f l : Nat) (k1 : kd M f % 1000 = 4) (hf : fR M f 4 = some l) (hl : LK M l 7) (t d kn : Int32) : CT E yX3_nameOn cX3_nameOn 7 (some (.object "NameLand$Name")) 4 0 0 [.ref f, .int t, .int d, .int kn] M (ansO (nOn M l t d kn (ln M l)) M) noX := by
  refine CT.of rfl (Nat.le_of_ble_eq_true rfl) (fun X g hrt hno hE hN hR hI => ?_)
  subst hE
  have hl150 := hl.2.1
  have hl400 := hl.1
  have loop : ∀ (k j : Nat) (hk : k + j = ln M l), Z X M 0 0 6 [(0, .ref f), (1, .int t), (2, .int d), (3, .int kn), (4, va_rf (nOn M l t d kn j)), (5, .int (nI j))] [] := by
    intro k
    induction k using Nat.strongRecOn with
    | _ k ih =>
      intro j hk
      rcases ho : nOn M l t d kn j with _ | q
      · show Z X M 0 0 6 [(0, .ref f), (1, .int t), (2, .int d), (3, .int kn), (4, .null), (5, .int (nI j))] []
        refine z_iload g dX3_nameOn_6 rfl ?_
        refine z_aload_n g dX3_nameOn_8 rfl ?_
        refine z_getR g fl_X3_24 (by assumption) (by decide) rfl (by assumption) dX3_nameOn_9 ?_
        refine z_callL g _ _ cv_X3_59 rfl (c_alsize _ M l hl.1) (by assumption) rfl (by rw [hR]; decide) (by rw [hR]; decide) (by rw [hR]; decide) (Nat.le_of_ble_eq_true rfl) rfl dX3_nameOn_12 (fun _ _ h => False.elim h) (fun r_12 M_12 h_12 => ?_)
        obtain ⟨rfl, rfl⟩ := h_12
        refine z_icmp_ge (tgt := 87) g dX3_nameOn_15 (by decide) (fun c_15 => ?_) (fun c_15 => ?_)
        · rw [nI_leI (by omega) (by omega)] at c_15
          rw [show j = ln M l by omega] at ho
          refine z_aloadN g dX3_nameOn_87 rfl ?_
          exact z_aret g hrt (Or.inl ⟨_, rfl⟩) (Or.inl rfl) (by decide) (by decide) dX3_nameOn_89 ⟨by rw [ho]; rfl, rfl⟩
        have h15 : j < ln M l := by rw [nI_leI (by omega) (by omega)] at c_15; omega
        refine z_aload_n g dX3_nameOn_18 rfl ?_
        refine z_getR g fl_X3_24 (by assumption) (by decide) rfl (by assumption) dX3_nameOn_19 ?_
        refine z_iload g dX3_nameOn_22 rfl ?_
        refine z_callL g _ _ cv_X3_63 rfl (c_getL _ M l j hl h15) (by assumption) rfl (by rw [hR]; decide) (by rw [hR]; decide) (by rw [hR]; decide) (Nat.le_of_ble_eq_true rfl) rfl dX3_nameOn_24 (fun _ _ h => False.elim h) (fun r_24 M_24 h_24 => ?_)
        obtain ⟨rfl, rfl⟩ := h_24
        have k2 : kd M (elt M l j) % 1000 = 7 := (hl.2.2 j h15).2
        refine z_cast (b := 7) g cl_X3_67 rfl (by assumption) (by decide) dX3_nameOn_27 ?_
        refine z_astore g dX3_nameOn_30 (by rw [hN]; decide) ?_
        refine z_aload g dX3_nameOn_32 rfl ?_
        refine z_getI g fl_X3_69 (by assumption) (by decide) rfl dX3_nameOn_34 ?_
        refine z_iload_n g dX3_nameOn_37 rfl ?_
        refine z_icmp_ne (tgt := 81) g dX3_nameOn_38 (by decide) (fun c_38 => ?_) (fun c_38 => ?_)
        · refine z_iinc1 g dX3_nameOn_81 rfl (by rw [hN]; decide) ?_
          refine z_goto (tgt := 6) g dX3_nameOn_84 (by decide) ?_
          have hs := ih (k - 1) (by omega) (j + 1) (by omega)
          rw [nI_s]
          first
            | (rw [show nOn M l t d kn (j + 1) = some (elt M l j) from if_pos ⟨c_38, c_47, c_56, by rw [ho]; first | rfl | (show (!decide _) = true; rw [decide_eq_false c_74]; rfl)⟩] at hs
               exact z_to hs ⟨rfl, rfl, rfl, rfl, rfl, rfl, trivial⟩)
            | (rw [show nOn M l t d kn (j + 1) = nOn M l t d kn j from if_neg (fun z => by first | exact c_38 z.1 | exact z.2.1 c_47 | exact z.2.2.1 c_56 | (have z9 := z.2.2.2; rw [ho] at z9; change (!decide _) = true at z9; rw [decide_eq_true c_74] at z9; cases z9))] at hs
               rw [ho] at hs
               exact z_to hs ⟨rfl, rfl, rfl, rfl, rfl, rfl, trivial⟩)
        · refine z_aload g dX3_nameOn_41 rfl ?_
          refine z_getI g fl_X3_72 (by assumption) (by decide) rfl dX3_nameOn_43 ?_
          refine z_iload_n g dX3_nameOn_46 rfl ?_
          refine z_icmp_gt (tgt := 81) g dX3_nameOn_47 (by decide) (fun c_47 => ?_) (fun c_47 => ?_)
          · refine z_iinc1 g dX3_nameOn_81 rfl (by rw [hN]; decide) ?_
            refine z_goto (tgt := 6) g dX3_nameOn_84 (by decide) ?_
            have hs := ih (k - 1) (by omega) (j + 1) (by omega)
            rw [nI_s]
            first
              | (rw [show nOn M l t d kn (j + 1) = some (elt M l j) from if_pos ⟨c_38, c_47, c_56, by rw [ho]; first | rfl | (show (!decide _) = true; rw [decide_eq_false c_74]; rfl)⟩] at hs
                 exact z_to hs ⟨rfl, rfl, rfl, rfl, rfl, rfl, trivial⟩)
              | (rw [show nOn M l t d kn (j + 1) = nOn M l t d kn j from if_neg (fun z => by first | exact c_38 z.1 | exact z.2.1 c_47 | exact z.2.2.1 c_56 | (have z9 := z.2.2.2; rw [ho] at z9; change (!decide _) = true at z9; rw [decide_eq_true c_74] at z9; cases z9))] at hs
                 rw [ho] at hs
                 exact z_to hs ⟨rfl, rfl, rfl, rfl, rfl, rfl, trivial⟩)
          · refine z_aload g dX3_nameOn_50 rfl ?_
            refine z_iload_n g dX3_nameOn_52 rfl ?_
            refine z_callV g _ _ cv_X3_75 (c_cnts _ M (elt M l j) k2 kn) (by assumption) (by decide) rfl (by rw [hR]; decide) (by rw [hR]; decide) (by rw [hR]; decide) (Nat.le_of_ble_eq_true rfl) rfl dX3_nameOn_53 (fun _ _ h => False.elim h) (fun r_53 M_53 h_53 => ?_)
            obtain ⟨rfl, rfl⟩ := h_53
            refine z_if_eq (tgt := 81) g dX3_nameOn_56 (by decide) (fun c_56 => ?_) (fun c_56 => ?_)
            · refine z_iinc1 g dX3_nameOn_81 rfl (by rw [hN]; decide) ?_
              refine z_goto (tgt := 6) g dX3_nameOn_84 (by decide) ?_
              have hs := ih (k - 1) (by omega) (j + 1) (by omega)
              rw [nI_s]
              first
                | (rw [show nOn M l t d kn (j + 1) = some (elt M l j) from if_pos ⟨c_38, c_47, c_56, by rw [ho]; first | rfl | (show (!decide _) = true; rw [decide_eq_false c_74]; rfl)⟩] at hs
                   exact z_to hs ⟨rfl, rfl, rfl, rfl, rfl, rfl, trivial⟩)
                | (rw [show nOn M l t d kn (j + 1) = nOn M l t d kn j from if_neg (fun z => by first | exact c_38 z.1 | exact z.2.1 c_47 | exact z.2.2.1 c_56 | (have z9 := z.2.2.2; rw [ho] at z9; change (!decide _) = true at z9; rw [decide_eq_true c_74] at z9; cases z9))] at hs
                   rw [ho] at hs
                   exact z_to hs ⟨rfl, rfl, rfl, rfl, rfl, rfl, trivial⟩)
            · refine z_aloadN g dX3_nameOn_59 rfl ?_
              refine z_ifnullN (tgt := 77) g dX3_nameOn_61 (by decide) ?_
              refine z_aload g dX3_nameOn_77 rfl ?_
              refine z_astore g dX3_nameOn_79 (by rw [hN]; decide) ?_
              refine z_iinc1 g dX3_nameOn_81 rfl (by rw [hN]; decide) ?_
              refine z_goto (tgt := 6) g dX3_nameOn_84 (by decide) ?_
              have hs := ih (k - 1) (by omega) (j + 1) (by omega)
              rw [nI_s]
              first
                | (rw [show nOn M l t d kn (j + 1) = some (elt M l j) from if_pos ⟨c_38, c_47, c_56, by rw [ho]; first | rfl | (show (!decide _) = true; rw [decide_eq_false c_74]; rfl)⟩] at hs
                   exact z_to hs ⟨rfl, rfl, rfl, rfl, rfl, rfl, trivial⟩)
                | (rw [show nOn M l t d kn (j + 1) = nOn M l t d kn j from if_neg (fun z => by first | exact c_38 z.1 | exact z.2.1 c_47 | exact z.2.2.1 c_56 | (have z9 := z.2.2.2; rw [ho] at z9; change (!decide _) = true at z9; rw [decide_eq_true c_74] at z9; cases z9))] at hs
                   rw [ho] at hs
                   exact z_to hs ⟨rfl, rfl, rfl, rfl, rfl, rfl, trivial⟩)
      · show Z X M 0 0 6 [(0, .ref f), (1, .int t), (2, .int d), (3, .int kn), (4, .ref q), (5, .int (nI j))] []
        have k3 : kd M q % 1000 = 7 := by
          obtain ⟨i, h1, h2⟩ := nOn_mem ho
          rw [h2]; exact (hl.2.2 i (by omega)).2
        refine z_iload g dX3_nameOn_6 rfl ?_
        refine z_aload_n g dX3_nameOn_8 rfl ?_
        refine z_getR g fl_X3_24 (by assumption) (by decide) rfl (by assumption) dX3_nameOn_9 ?_
        refine z_callL g _ _ cv_X3_59 rfl (c_alsize _ M l hl.1) (by assumption) rfl (by rw [hR]; decide) (by rw [hR]; decide) (by rw [hR]; decide) (Nat.le_of_ble_eq_true rfl) rfl dX3_nameOn_12 (fun _ _ h => False.elim h) (fun r_12 M_12 h_12 => ?_)
        obtain ⟨rfl, rfl⟩ := h_12
        refine z_icmp_ge (tgt := 87) g dX3_nameOn_15 (by decide) (fun c_15 => ?_) (fun c_15 => ?_)
        · rw [nI_leI (by omega) (by omega)] at c_15
          rw [show j = ln M l by omega] at ho
          refine z_aload g dX3_nameOn_87 rfl ?_
          exact z_aret g hrt (Or.inl ⟨_, rfl⟩) (Or.inr ⟨_, rfl⟩) (by decide) (by decide) dX3_nameOn_89 ⟨by rw [ho]; rfl, rfl⟩
        have h15 : j < ln M l := by rw [nI_leI (by omega) (by omega)] at c_15; omega
        refine z_aload_n g dX3_nameOn_18 rfl ?_
        refine z_getR g fl_X3_24 (by assumption) (by decide) rfl (by assumption) dX3_nameOn_19 ?_
        refine z_iload g dX3_nameOn_22 rfl ?_
        refine z_callL g _ _ cv_X3_63 rfl (c_getL _ M l j hl h15) (by assumption) rfl (by rw [hR]; decide) (by rw [hR]; decide) (by rw [hR]; decide) (Nat.le_of_ble_eq_true rfl) rfl dX3_nameOn_24 (fun _ _ h => False.elim h) (fun r_24 M_24 h_24 => ?_)
        obtain ⟨rfl, rfl⟩ := h_24
        have k2 : kd M (elt M l j) % 1000 = 7 := (hl.2.2 j h15).2
        refine z_cast (b := 7) g cl_X3_67 rfl (by assumption) (by decide) dX3_nameOn_27 ?_
        refine z_astore g dX3_nameOn_30 (by rw [hN]; decide) ?_
        refine z_aload g dX3_nameOn_32 rfl ?_
        refine z_getI g fl_X3_69 (by assumption) (by decide) rfl dX3_nameOn_34 ?_
        refine z_iload_n g dX3_nameOn_37 rfl ?_
        refine z_icmp_ne (tgt := 81) g dX3_nameOn_38 (by decide) (fun c_38 => ?_) (fun c_38 => ?_)
        · refine z_iinc1 g dX3_nameOn_81 rfl (by rw [hN]; decide) ?_
          refine z_goto (tgt := 6) g dX3_nameOn_84 (by decide) ?_
          have hs := ih (k - 1) (by omega) (j + 1) (by omega)
          rw [nI_s]
          first
            | (rw [show nOn M l t d kn (j + 1) = some (elt M l j) from if_pos ⟨c_38, c_47, c_56, by rw [ho]; first | rfl | (show (!decide _) = true; rw [decide_eq_false c_74]; rfl)⟩] at hs
               exact z_to hs ⟨rfl, rfl, rfl, rfl, rfl, rfl, trivial⟩)
            | (rw [show nOn M l t d kn (j + 1) = nOn M l t d kn j from if_neg (fun z => by first | exact c_38 z.1 | exact z.2.1 c_47 | exact z.2.2.1 c_56 | (have z9 := z.2.2.2; rw [ho] at z9; change (!decide _) = true at z9; rw [decide_eq_true c_74] at z9; cases z9))] at hs
               rw [ho] at hs
               exact z_to hs ⟨rfl, rfl, rfl, rfl, rfl, rfl, trivial⟩)
        · refine z_aload g dX3_nameOn_41 rfl ?_
          refine z_getI g fl_X3_72 (by assumption) (by decide) rfl dX3_nameOn_43 ?_
          refine z_iload_n g dX3_nameOn_46 rfl ?_
          refine z_icmp_gt (tgt := 81) g dX3_nameOn_47 (by decide) (fun c_47 => ?_) (fun c_47 => ?_)
          · refine z_iinc1 g dX3_nameOn_81 rfl (by rw [hN]; decide) ?_
            refine z_goto (tgt := 6) g dX3_nameOn_84 (by decide) ?_
            have hs := ih (k - 1) (by omega) (j + 1) (by omega)
            rw [nI_s]
            first
              | (rw [show nOn M l t d kn (j + 1) = some (elt M l j) from if_pos ⟨c_38, c_47, c_56, by rw [ho]; first | rfl | (show (!decide _) = true; rw [decide_eq_false c_74]; rfl)⟩] at hs
                 exact z_to hs ⟨rfl, rfl, rfl, rfl, rfl, rfl, trivial⟩)
              | (rw [show nOn M l t d kn (j + 1) = nOn M l t d kn j from if_neg (fun z => by first | exact c_38 z.1 | exact z.2.1 c_47 | exact z.2.2.1 c_56 | (have z9 := z.2.2.2; rw [ho] at z9; change (!decide _) = true at z9; rw [decide_eq_true c_74] at z9; cases z9))] at hs
                 rw [ho] at hs
                 exact z_to hs ⟨rfl, rfl, rfl, rfl, rfl, rfl, trivial⟩)
          · refine z_aload g dX3_nameOn_50 rfl ?_
            refine z_iload_n g dX3_nameOn_52 rfl ?_
            refine z_callV g _ _ cv_X3_75 (c_cnts _ M (elt M l j) k2 kn) (by assumption) (by decide) rfl (by rw [hR]; decide) (by rw [hR]; decide) (by rw [hR]; decide) (Nat.le_of_ble_eq_true rfl) rfl dX3_nameOn_53 (fun _ _ h => False.elim h) (fun r_53 M_53 h_53 => ?_)
            obtain ⟨rfl, rfl⟩ := h_53
            refine z_if_eq (tgt := 81) g dX3_nameOn_56 (by decide) (fun c_56 => ?_) (fun c_56 => ?_)
            · refine z_iinc1 g dX3_nameOn_81 rfl (by rw [hN]; decide) ?_
              refine z_goto (tgt := 6) g dX3_nameOn_84 (by decide) ?_
              have hs := ih (k - 1) (by omega) (j + 1) (by omega)
              rw [nI_s]
              first
                | (rw [show nOn M l t d kn (j + 1) = some (elt M l j) from if_pos ⟨c_38, c_47, c_56, by rw [ho]; first | rfl | (show (!decide _) = true; rw [decide_eq_false c_74]; rfl)⟩] at hs
                   exact z_to hs ⟨rfl, rfl, rfl, rfl, rfl, rfl, trivial⟩)
                | (rw [show nOn M l t d kn (j + 1) = nOn M l t d kn j from if_neg (fun z => by first | exact c_38 z.1 | exact z.2.1 c_47 | exact z.2.2.1 c_56 | (have z9 := z.2.2.2; rw [ho] at z9; change (!decide _) = true at z9; rw [decide_eq_true c_74] at z9; cases z9))] at hs
                   rw [ho] at hs
                   exact z_to hs ⟨rfl, rfl, rfl, rfl, rfl, rfl, trivial⟩)
            · refine z_aload g dX3_nameOn_59 rfl ?_
              refine z_ifnull g dX3_nameOn_61 ?_
              refine z_aload g dX3_nameOn_64 rfl ?_
              refine z_getI g fl_X3_72 (by assumption) (by decide) rfl dX3_nameOn_66 ?_
              refine z_aload g dX3_nameOn_69 rfl ?_
              refine z_getI g fl_X3_72 (by assumption) (by decide) rfl dX3_nameOn_71 ?_
              refine z_icmp_lt (tgt := 81) g dX3_nameOn_74 (by decide) (fun c_74 => ?_) (fun c_74 => ?_)
              · refine z_iinc1 g dX3_nameOn_81 rfl (by rw [hN]; decide) ?_
                refine z_goto (tgt := 6) g dX3_nameOn_84 (by decide) ?_
                have hs := ih (k - 1) (by omega) (j + 1) (by omega)
                rw [nI_s]
                first
                  | (rw [show nOn M l t d kn (j + 1) = some (elt M l j) from if_pos ⟨c_38, c_47, c_56, by rw [ho]; first | rfl | (show (!decide _) = true; rw [decide_eq_false c_74]; rfl)⟩] at hs
                     exact z_to hs ⟨rfl, rfl, rfl, rfl, rfl, rfl, trivial⟩)
                  | (rw [show nOn M l t d kn (j + 1) = nOn M l t d kn j from if_neg (fun z => by first | exact c_38 z.1 | exact z.2.1 c_47 | exact z.2.2.1 c_56 | (have z9 := z.2.2.2; rw [ho] at z9; change (!decide _) = true at z9; rw [decide_eq_true c_74] at z9; cases z9))] at hs
                     rw [ho] at hs
                     exact z_to hs ⟨rfl, rfl, rfl, rfl, rfl, rfl, trivial⟩)
              · refine z_aload g dX3_nameOn_77 rfl ?_
                refine z_astore g dX3_nameOn_79 (by rw [hN]; decide) ?_
                refine z_iinc1 g dX3_nameOn_81 rfl (by rw [hN]; decide) ?_
                refine z_goto (tgt := 6) g dX3_nameOn_84 (by decide) ?_
                have hs := ih (k - 1) (by omega) (j + 1) (by omega)
                rw [nI_s]
                first
                  | (rw [show nOn M l t d kn (j + 1) = some (elt M l j) from if_pos ⟨c_38, c_47, c_56, by rw [ho]; first | rfl | (show (!decide _) = true; rw [decide_eq_false c_74]; rfl)⟩] at hs
                     exact z_to hs ⟨rfl, rfl, rfl, rfl, rfl, rfl, trivial⟩)
                  | (rw [show nOn M l t d kn (j + 1) = nOn M l t d kn j from if_neg (fun z => by first | exact c_38 z.1 | exact z.2.1 c_47 | exact z.2.2.1 c_56 | (have z9 := z.2.2.2; rw [ho] at z9; change (!decide _) = true at z9; rw [decide_eq_true c_74] at z9; cases z9))] at hs
                     rw [ho] at hs
                     exact z_to hs ⟨rfl, rfl, rfl, rfl, rfl, rfl, trivial⟩)
  refine z_null g dX3_nameOn_0 ?_
  refine z_astoreN g dX3_nameOn_1 (by rw [hN]; decide) ?_
  refine z_iconst (v := 0) g dX3_nameOn_3 (by decide) ?_
  refine z_istore g dX3_nameOn_4 (by rw [hN]; decide) ?_
  exact z_to (loop (ln M l) 0 rfl) ⟨rfl, rfl, rfl, rfl, rfl, rfl, trivial⟩
