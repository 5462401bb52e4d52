def IAE : String := "java/lang/IllegalArgumentException"
def ISE : String := "java/lang/IllegalStateException"
def IOE : String := "java/lang/IndexOutOfBoundsException"
theorem ini_IAE : Cond.initialized "java/lang/IllegalArgumentException" ∈ lw_tbl := (mT 14 (by decide +kernel))
theorem ini_ISE : Cond.initialized "java/lang/IllegalStateException" ∈ lw_tbl := (mT 15 (by decide +kernel))
theorem ini_IOE : Cond.initialized "java/lang/IndexOutOfBoundsException" ∈ lw_tbl := (mT 19 (by decide +kernel))
def chk (b : Bool) (M : Mm) : Option Value → Mm → Prop := fun r M' => b = true ∧ r = none ∧ M = M'
def thr (b : Bool) (x : String) (M : Mm) : String → Mm → Prop := fun E M' => b = false ∧ E = x ∧ M = M'
def ixB (i n : Int32) : Bool := !decide (i < 0) && decide (i < n)
def dayB (d : Int32) : Bool := !decide (d < 0) && !decide (9999 < d)
def letB (d : Int32) : Bool := !decide (d < 1) && !decide (26 < d)
def letNB (d : Int32) : Bool := decide (d = 0) || letB d
def plB (x y : Int32) : Bool := !decide (x < 0) && (!decide (100 ≤ x) && (!decide (y < 0) && !decide (100 ≤ y)))
set_option maxHeartbeats 4000000 in
set_option maxRecDepth 100000 in
theorem c_needArg (E : Ev) (M : Mm) (b : Bool) : CT E yX10_needArgument cX10_needArgument 1 none 6 1 6 [.int (b2i b)] M (chk b M) (thr b IAE M) := by
  refine CT.of rfl (Nat.le_of_ble_eq_true rfl) (fun X g hrt hno hE hN hR hI => ?_)
  subst hE
  refine z_iload_n g dX10_needArgument_0 rfl ?_
  refine z_if_ne (tgt := 15) g dX10_needArgument_1 (by decide) (fun c_1 => ?_) (fun c_1 => ?_)
  · exact z_vret g hrt (by decide) (by decide) dX10_needArgument_15 ⟨b2i_n0.mp c_1, rfl, rfl⟩
  · exact z_throw (text := "out of range") g hrt hno ["java/lang/RuntimeException", "java/lang/Exception"] (by decide) (by decide) cl_X10_350 ini_IAE (by decide) thr_IAE thg_IAE dX10_needArgument_4 dX10_needArgument_7 dX10_needArgument_8 dX10_needArgument_11 dX10_needArgument_14 (by rw [hR]; decide) (by rw [hR]; decide) (by rw [hR]; decide) (by rw [hR]; decide) (by decide) (by decide) ⟨b2i_0.mp c_1, rfl, rfl⟩
set_option maxHeartbeats 4000000 in
set_option maxRecDepth 100000 in
theorem c_needSt (E : Ev) (M : Mm) (b : Bool) : CT E yX10_needState cX10_needState 1 none 6 1 6 [.int (b2i b)] M (chk b M) (thr b ISE M) := by
  refine CT.of rfl (Nat.le_of_ble_eq_true rfl) (fun X g hrt hno hE hN hR hI => ?_)
  subst hE
  refine z_iload_n g dX10_needState_0 rfl ?_
  refine z_if_ne (tgt := 15) g dX10_needState_1 (by decide) (fun c_1 => ?_) (fun c_1 => ?_)
  · exact z_vret g hrt (by decide) (by decide) dX10_needState_15 ⟨b2i_n0.mp c_1, rfl, rfl⟩
  · exact z_throw (text := "not possible now") g hrt hno ["java/lang/RuntimeException", "java/lang/Exception"] (by decide) (by decide) cl_X10_355 ini_ISE (by decide) thr_ISE (thg_ISE 355) dX10_needState_4 dX10_needState_7 dX10_needState_8 dX10_needState_11 dX10_needState_14 (by rw [hR]; decide) (by rw [hR]; decide) (by rw [hR]; decide) (by rw [hR]; decide) (by decide) (by decide) ⟨b2i_0.mp c_1, rfl, rfl⟩
set_option maxHeartbeats 4000000 in
set_option maxRecDepth 100000 in
theorem c_needIx (E : Ev) (M : Mm) (i n : Int32) : CT E yX10_needIndex cX10_needIndex 2 none 6 1 6 [.int i, .int n] M (chk (ixB i n) M) (thr (ixB i n) IOE M) := by
  refine CT.of rfl (Nat.le_of_ble_eq_true rfl) (fun X g hrt hno hE hN hR hI => ?_)
  subst hE
  refine z_iload_n g dX10_needIndex_0 rfl ?_
  refine z_if_lt (tgt := 9) g dX10_needIndex_1 (by decide) (fun c_1 => ?_) (fun c_1 => ?_)
  · exact z_throw (text := "does not exist") g hrt hno ["java/lang/RuntimeException", "java/lang/Exception"] (by decide) (by decide) cl_X10_327 ini_IOE (by decide) thr_IOE (thg_IOE 327) dX10_needIndex_9 dX10_needIndex_12 dX10_needIndex_13 dX10_needIndex_16 dX10_needIndex_19 (by rw [hR]; decide) (by rw [hR]; decide) (by rw [hR]; decide) (by rw [hR]; decide) (by decide) (by decide) ⟨by simp [ixB, c_1], rfl, rfl⟩
  · refine z_iload_n g dX10_needIndex_4 rfl ?_
    refine z_iload_n g dX10_needIndex_5 rfl ?_
    refine z_icmp_lt (tgt := 20) g dX10_needIndex_6 (by decide) (fun c_6 => ?_) (fun c_6 => ?_)
    · exact z_vret g hrt (by decide) (by decide) dX10_needIndex_20 ⟨by simp [ixB, c_1, c_6], rfl, rfl⟩
    · exact z_throw (text := "does not exist") g hrt hno ["java/lang/RuntimeException", "java/lang/Exception"] (by decide) (by decide) cl_X10_327 ini_IOE (by decide) thr_IOE (thg_IOE 327) dX10_needIndex_9 dX10_needIndex_12 dX10_needIndex_13 dX10_needIndex_16 dX10_needIndex_19 (by rw [hR]; decide) (by rw [hR]; decide) (by rw [hR]; decide) (by rw [hR]; decide) (by decide) (by decide) ⟨by simp [ixB, c_1, c_6], rfl, rfl⟩
set_option maxHeartbeats 4000000 in
set_option maxRecDepth 100000 in
theorem c_needTg (E : Ev) (M : Mm) (t : Int32) : CT E yX10_needTongue cX10_needTongue 1 none 7 1 6 [.int t] M (chk (ixB t 4) M) (thr (ixB t 4) IOE M) := by
  refine CT.of rfl (Nat.le_of_ble_eq_true rfl) (fun X g hrt hno hE hN hR hI => ?_)
  subst hE
  refine z_iload_n g dX10_needTongue_0 rfl ?_
  refine z_iconst (v := 4) g dX10_needTongue_1 (by decide) ?_
  refine z_callS g _ _ cs_X10_206 (c_needIx _ M t 4) rfl (by rw [hR]; decide) (by rw [hR]; decide) (by rw [hR]; decide) (Nat.le_of_ble_eq_true rfl) rfl dX10_needTongue_2 (fun E9 M9 h9 => by obtain ⟨h9, rfl, rfl⟩ := h9; exact zx_out g hrt hno (by decide) (by decide) ⟨h9, rfl, rfl⟩) (fun r_2 M_2 h_2 => ?_)
  obtain ⟨hb_2, rfl, rfl⟩ := h_2
  exact z_vret g hrt (by decide) (by decide) dX10_needTongue_5 ⟨hb_2, rfl, rfl⟩
set_option maxHeartbeats 4000000 in
set_option maxRecDepth 100000 in
theorem c_isDay (E : Ev) (M : Mm) (d : Int32) : CT E yX10_isDay cX10_isDay 1 (some .boolean) 1 0 0 [.int d] M (ansI (b2i (dayB d)) M) noX := by
  refine CT.of rfl (Nat.le_of_ble_eq_true rfl) (fun X g hrt hno hE hN hR hI => ?_)
  subst hE
  refine z_iload_n g dX10_isDay_0 rfl ?_
  refine z_if_lt (tgt := 15) g dX10_isDay_1 (by decide) (fun c_1 => ?_) (fun c_1 => ?_)
  · refine z_iconst (v := 0) g dX10_isDay_15 (by decide) ?_
    exact z_iret g hrt (by decide) (by decide) (by decide) dX10_isDay_16 ⟨by simp [dayB, letB, plB, b2i, c_1], rfl⟩
  · refine z_iload_n g dX10_isDay_4 rfl ?_
    refine z_sipush (v := 9999) g dX10_isDay_5 (by decide) ?_
    refine z_icmp_gt (tgt := 15) g dX10_isDay_8 (by decide) (fun c_8 => ?_) (fun c_8 => ?_)
    · refine z_iconst (v := 0) g dX10_isDay_15 (by decide) ?_
      exact z_iret g hrt (by decide) (by decide) (by decide) dX10_isDay_16 ⟨by simp [dayB, letB, plB, b2i, c_1, c_8], rfl⟩
    · refine z_iconst (v := 1) g dX10_isDay_11 (by decide) ?_
      refine z_goto (tgt := 16) g dX10_isDay_12 (by decide) ?_
      exact z_iret g hrt (by decide) (by decide) (by decide) dX10_isDay_16 ⟨by simp [dayB, letB, plB, b2i, c_1, c_8], rfl⟩
set_option maxHeartbeats 4000000 in
set_option maxRecDepth 100000 in
theorem c_isLet (E : Ev) (M : Mm) (d : Int32) : CT E yX10_isLetter cX10_isLetter 1 (some .boolean) 1 0 0 [.int d] M (ansI (b2i (letB d)) M) noX := by
  refine CT.of rfl (Nat.le_of_ble_eq_true rfl) (fun X g hrt hno hE hN hR hI => ?_)
  subst hE
  refine z_iload_n g dX10_isLetter_0 rfl ?_
  refine z_iconst (v := 1) g dX10_isLetter_1 (by decide) ?_
  refine z_icmp_lt (tgt := 15) g dX10_isLetter_2 (by decide) (fun c_2 => ?_) (fun c_2 => ?_)
  · refine z_iconst (v := 0) g dX10_isLetter_15 (by decide) ?_
    exact z_iret g hrt (by decide) (by decide) (by decide) dX10_isLetter_16 ⟨by simp [dayB, letB, plB, b2i, c_2], rfl⟩
  · refine z_iload_n g dX10_isLetter_5 rfl ?_
    refine z_bipush (v := 26) g dX10_isLetter_6 (by decide) ?_
    refine z_icmp_gt (tgt := 15) g dX10_isLetter_8 (by decide) (fun c_8 => ?_) (fun c_8 => ?_)
    · refine z_iconst (v := 0) g dX10_isLetter_15 (by decide) ?_
      exact z_iret g hrt (by decide) (by decide) (by decide) dX10_isLetter_16 ⟨by simp [dayB, letB, plB, b2i, c_2, c_8], rfl⟩
    · refine z_iconst (v := 1) g dX10_isLetter_11 (by decide) ?_
      refine z_goto (tgt := 16) g dX10_isLetter_12 (by decide) ?_
      exact z_iret g hrt (by decide) (by decide) (by decide) dX10_isLetter_16 ⟨by simp [dayB, letB, plB, b2i, c_2, c_8], rfl⟩
set_option maxHeartbeats 4000000 in
set_option maxRecDepth 100000 in
theorem c_isPl (E : Ev) (M : Mm) (x y : Int32) : CT E yX10_isPlace cX10_isPlace 2 (some .boolean) 1 0 0 [.int x, .int y] M (ansI (b2i (plB x y)) M) noX := by
  refine CT.of rfl (Nat.le_of_ble_eq_true rfl) (fun X g hrt hno hE hN hR hI => ?_)
  subst hE
  refine z_iload_n g dX10_isPlace_0 rfl ?_
  refine z_if_lt (tgt := 24) g dX10_isPlace_1 (by decide) (fun c_1 => ?_) (fun c_1 => ?_)
  · refine z_iconst (v := 0) g dX10_isPlace_24 (by decide) ?_
    exact z_iret g hrt (by decide) (by decide) (by decide) dX10_isPlace_25 ⟨by simp [dayB, letB, plB, b2i, c_1], rfl⟩
  · refine z_iload_n g dX10_isPlace_4 rfl ?_
    refine z_bipush (v := 100) g dX10_isPlace_5 (by decide) ?_
    refine z_icmp_ge (tgt := 24) g dX10_isPlace_7 (by decide) (fun c_7 => ?_) (fun c_7 => ?_)
    · refine z_iconst (v := 0) g dX10_isPlace_24 (by decide) ?_
      exact z_iret g hrt (by decide) (by decide) (by decide) dX10_isPlace_25 ⟨by simp [dayB, letB, plB, b2i, c_1, c_7], rfl⟩
    · refine z_iload_n g dX10_isPlace_10 rfl ?_
      refine z_if_lt (tgt := 24) g dX10_isPlace_11 (by decide) (fun c_11 => ?_) (fun c_11 => ?_)
      · refine z_iconst (v := 0) g dX10_isPlace_24 (by decide) ?_
        exact z_iret g hrt (by decide) (by decide) (by decide) dX10_isPlace_25 ⟨by simp [dayB, letB, plB, b2i, c_1, c_7, c_11], rfl⟩
      · refine z_iload_n g dX10_isPlace_14 rfl ?_
        refine z_bipush (v := 100) g dX10_isPlace_15 (by decide) ?_
        refine z_icmp_ge (tgt := 24) g dX10_isPlace_17 (by decide) (fun c_17 => ?_) (fun c_17 => ?_)
        · refine z_iconst (v := 0) g dX10_isPlace_24 (by decide) ?_
          exact z_iret g hrt (by decide) (by decide) (by decide) dX10_isPlace_25 ⟨by simp [dayB, letB, plB, b2i, c_1, c_7, c_11, c_17], rfl⟩
        · refine z_iconst (v := 1) g dX10_isPlace_20 (by decide) ?_
          refine z_goto (tgt := 25) g dX10_isPlace_21 (by decide) ?_
          exact z_iret g hrt (by decide) (by decide) (by decide) dX10_isPlace_25 ⟨by simp [dayB, letB, plB, b2i, c_1, c_7, c_11, c_17], rfl⟩
set_option maxHeartbeats 4000000 in
set_option maxRecDepth 100000 in
theorem c_isLetN (E : Ev) (M : Mm) (d : Int32) : CT E yX10_isLetterOrNone cX10_isLetterOrNone 1 (some .boolean) 2 0 0 [.int d] M (ansI (b2i (letNB d)) M) noX := by
  refine CT.of rfl (Nat.le_of_ble_eq_true rfl) (fun X g hrt hno hE hN hR hI => ?_)
  subst hE
  refine z_iload_n g dX10_isLetterOrNone_0 rfl ?_
  refine z_if_eq (tgt := 11) g dX10_isLetterOrNone_1 (by decide) (fun c_1 => ?_) (fun c_1 => ?_)
  · refine z_iconst (v := 1) g dX10_isLetterOrNone_11 (by decide) ?_
    refine z_goto (tgt := 16) g dX10_isLetterOrNone_12 (by decide) ?_
    exact z_iret g hrt (by decide) (by decide) (by decide) dX10_isLetterOrNone_16 ⟨by first | (have h8 := b2i_0.mp c_8; simp [letNB, b2i, h8, c_1]; done) | (have h8 := b2i_n0.mp c_8; simp [letNB, b2i, h8, c_1]; done) | (simp [letNB, b2i, c_1]; done), rfl⟩
  · refine z_iload_n g dX10_isLetterOrNone_4 rfl ?_
    refine z_callS g _ _ cs_X10_166 (c_isLet _ M d) rfl (by rw [hR]; decide) (by rw [hR]; decide) (by rw [hR]; decide) (Nat.le_of_ble_eq_true rfl) rfl dX10_isLetterOrNone_5 (fun _ _ h => False.elim h) (fun r_5 M_5 h_5 => ?_)
    obtain ⟨rfl, rfl⟩ := h_5
    refine z_if_eq (tgt := 15) g dX10_isLetterOrNone_8 (by decide) (fun c_8 => ?_) (fun c_8 => ?_)
    · refine z_iconst (v := 0) g dX10_isLetterOrNone_15 (by decide) ?_
      exact z_iret g hrt (by decide) (by decide) (by decide) dX10_isLetterOrNone_16 ⟨by first | (have h8 := b2i_0.mp c_8; simp [letNB, b2i, h8, c_1]; done) | (have h8 := b2i_n0.mp c_8; simp [letNB, b2i, h8, c_1]; done) | (simp [letNB, b2i, c_1, c_8]; done), rfl⟩
    · refine z_iconst (v := 1) g dX10_isLetterOrNone_11 (by decide) ?_
      refine z_goto (tgt := 16) g dX10_isLetterOrNone_12 (by decide) ?_
      exact z_iret g hrt (by decide) (by decide) (by decide) dX10_isLetterOrNone_16 ⟨by first | (have h8 := b2i_0.mp c_8; simp [letNB, b2i, h8, c_1]; done) | (have h8 := b2i_n0.mp c_8; simp [letNB, b2i, h8, c_1]; done) | (simp [letNB, b2i, c_1, c_8]; done), rfl⟩
set_option maxHeartbeats 4000000 in
set_option maxRecDepth 100000 in
theorem c_plN (E : Ev) (M : Mm) (x y : Int32) : CT E yX10_placeNumber cX10_placeNumber 2 (some .int) 1 0 0 [.int x, .int y] M (ansI (x * 100 + y) M) noX := by
  refine CT.of rfl (Nat.le_of_ble_eq_true rfl) (fun X g hrt hno hE hN hR hI => ?_)
  subst hE
  refine z_iload_n g dX10_placeNumber_0 rfl ?_
  refine z_bipush (v := 100) g dX10_placeNumber_1 (by decide) ?_
  refine z_imul g dX10_placeNumber_3 ?_
  refine z_iload_n g dX10_placeNumber_4 rfl ?_
  refine z_iadd g dX10_placeNumber_5 ?_
  exact z_iret g hrt rfl (by decide) (by decide) dX10_placeNumber_6 ⟨rfl, rfl⟩
def fstN (p : Int32) : Int32 := if p = -1 then -1 else p / 100
def sndN (p : Int32) : Int32 := if p = -1 then -1 else p - p / 100 * 100
set_option maxHeartbeats 4000000 in
set_option maxRecDepth 100000 in
theorem c_fst (E : Ev) (M : Mm) (p : Int32) : CT E yX10_firstNumber cX10_firstNumber 1 (some .int) 1 0 0 [.int p] M (ansI (fstN p) M) noX := by
  refine CT.of rfl (Nat.le_of_ble_eq_true rfl) (fun X g hrt hno hE hN hR hI => ?_)
  subst hE
  refine z_iload_n g dX10_firstNumber_0 rfl ?_
  refine z_iconst (v := (-1)) g dX10_firstNumber_1 (by decide) ?_
  refine z_icmp_ne (tgt := 9) g dX10_firstNumber_2 (by decide) (fun c_2 => ?_) (fun c_2 => ?_)
  · refine z_iload_n g dX10_firstNumber_9 rfl ?_
    refine z_bipush (v := 100) g dX10_firstNumber_10 (by decide) ?_
    refine z_idiv g dX10_firstNumber_12 (by decide) ?_
    exact z_iret g hrt rfl (by decide) (by decide) dX10_firstNumber_13 ⟨by simp [fstN, sndN, c_2], rfl⟩
  · refine z_iconst (v := (-1)) g dX10_firstNumber_5 (by decide) ?_
    refine z_goto (tgt := 13) g dX10_firstNumber_6 (by decide) ?_
    exact z_iret g hrt rfl (by decide) (by decide) dX10_firstNumber_13 ⟨by simp [fstN, sndN, c_2], rfl⟩
set_option maxHeartbeats 4000000 in
set_option maxRecDepth 100000 in
theorem c_snd (E : Ev) (M : Mm) (p : Int32) : CT E yX10_secondNumber cX10_secondNumber 1 (some .int) 1 0 0 [.int p] M (ansI (sndN p) M) noX := by
  refine CT.of rfl (Nat.le_of_ble_eq_true rfl) (fun X g hrt hno hE hN hR hI => ?_)
  subst hE
  refine z_iload_n g dX10_secondNumber_0 rfl ?_
  refine z_iconst (v := (-1)) g dX10_secondNumber_1 (by decide) ?_
  refine z_icmp_ne (tgt := 9) g dX10_secondNumber_2 (by decide) (fun c_2 => ?_) (fun c_2 => ?_)
  · refine z_iload_n g dX10_secondNumber_9 rfl ?_
    refine z_bipush (v := 100) g dX10_secondNumber_10 (by decide) ?_
    refine z_irem g dX10_secondNumber_12 (by decide) ?_
    exact z_iret g hrt rfl (by decide) (by decide) dX10_secondNumber_13 ⟨by simp [fstN, sndN, c_2], rfl⟩
  · refine z_iconst (v := (-1)) g dX10_secondNumber_5 (by decide) ?_
    refine z_goto (tgt := 13) g dX10_secondNumber_6 (by decide) ?_
    exact z_iret g hrt rfl (by decide) (by decide) dX10_secondNumber_13 ⟨by simp [fstN, sndN, c_2], rfl⟩
