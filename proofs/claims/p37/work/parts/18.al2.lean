theorem acl_Jx4a65c_112 : Cond.methodLink RJx4a65c 112 arraycopyName ∈ lw_tbl := (mT 433 (by decide +kernel))
theorem gcl_J7_86 : Cond.methodLink RJ7 86 ⟨"java/lang/Object", "getClass", "()Ljava/lang/Class;"⟩ ∈ lw_tbl := (mT 124 (by decide +kernel))
theorem acl_J7_150 : Cond.methodLink RJ7 150 arraycopyName ∈ lw_tbl := (mT 154 (by decide +kernel))
theorem acw2 : Cond.native arraycopyName ∈ lw_tbl := (mT 156 (by decide +kernel))
theorem acw3 : Cond.static arraycopyName ∈ lw_tbl := (mT 155 (by decide +kernel))
theorem acw4 : Cond.initialized "java/lang/System" ∈ lw_tbl := (mT 10 (by decide +kernel))
theorem gcw2 : Cond.declares ⟨"java/lang/Object", "getClass", "()Ljava/lang/Class;"⟩ ∈ lw_tbl := (mT 1277 (by decide +kernel))
theorem gcw4 : Cond.instanceMethod ⟨"java/lang/Object", "getClass", "()Ljava/lang/Class;"⟩ ∈ lw_tbl := (mT 125 (by decide +kernel))
theorem gcw5 : Cond.native ⟨"java/lang/Object", "getClass", "()Ljava/lang/Class;"⟩ ∈ lw_tbl := (mT 144 (by decide +kernel))
theorem gcw3 : Cond.selects "[Ljava/lang/Object;" ⟨"java/lang/Object", "getClass", "()Ljava/lang/Class;"⟩ ⟨"java/lang/Object", "getClass", "()Ljava/lang/Class;"⟩ ∈ lw_tbl := (mT 1276 (by decide +kernel))
theorem newlen_e {o m p : Nat} (hm : m < 2 ^ 31) (hp : p < 2 ^ 31) : nI o + (if nI m < nI p then nI p else nI m) = nI (o + max m p) := by
  by_cases c : m < p
  · rw [if_pos (nI_lt c hp), nI_add, Nat.max_eq_right (by omega)]
  · rw [if_neg (nI_nlt (by omega) hm), nI_add, Nat.max_eq_left (by omega)]
set_option maxHeartbeats 4000000 in
set_option maxRecDepth 100000 in
theorem c_newlen (E : Ev) (M : Mm) (o m p : Nat) (h0 : 0 < o + max m p) (h1 : o + max m p < 1000000) (hm : m < 2 ^ 30) (hp : p < 2 ^ 30) : CT E yJ8_newLength_cabcc cJ8_newLength_cabcc 4 (some .int) 2 0 0 [.int (nI o), .int (nI m), .int (nI p)] M (ansI (nI (o + max m p)) M) noX := by
  refine CT.of rfl (Nat.le_of_ble_eq_true rfl) (fun X g hrt hno hE hN hR hI => ?_)
  subst hE
  refine z_iload_n g dJ8_newLength_cabcc_0 rfl ?_
  refine z_iload_n g dJ8_newLength_cabcc_1 rfl ?_
  refine z_iload_n g dJ8_newLength_cabcc_2 rfl ?_
  refine z_mmax g ml_J8_194 (by rw [hR]; decide) (by rw [hR]; exact Nat.le_of_ble_eq_true rfl) (by rw [hR]; decide) (by rw [hR]; decide) dJ8_newLength_cabcc_3 ?_
  refine z_iadd g dJ8_newLength_cabcc_6 ?_
  rw [newlen_e (by omega) (by omega)]
  refine z_istore_n g dJ8_newLength_cabcc_7 (by rw [hN]; decide) ?_
  refine z_iconst (v := 0) g dJ8_newLength_cabcc_8 (by decide) ?_
  refine z_iload_n g dJ8_newLength_cabcc_9 rfl ?_
  refine z_icmp_ge (tgt := 21) g dJ8_newLength_cabcc_10 (by decide) (fun c_10 => (by exact absurd c_10 (nI_nle h0 (by omega)))) (fun c_10 => ?_)
  refine z_iload_n g dJ8_newLength_cabcc_13 rfl ?_
  refine z_ldc g dJ8_newLength_cabcc_14 kc_J8_200 ?_
  refine z_icmp_gt (tgt := 21) g dJ8_newLength_cabcc_16 (by decide) (fun c_16 => (by exact absurd c_16 (show ¬ nI 2147483639 < nI (o + max m p) from nI_nlt (by omega) (by decide)))) (fun c_16 => ?_)
  refine z_iload_n g dJ8_newLength_cabcc_19 rfl ?_
  exact z_iret g hrt rfl (by decide) (by decide) dJ8_newLength_cabcc_20 ⟨rfl, rfl⟩
theorem va_cpy_lo {α : Type} {f g : Nat → α} {n i : Nat} (h : i < n) : va_cpy f g 0 0 n i = f i := by
  unfold va_cpy
  rw [if_pos ⟨Nat.zero_le _, by omega⟩]
  rw [show 0 + (i - 0) = i by omega]
theorem min_e {x y : Nat} (h : x ≤ y) (hy : y < 2 ^ 31) : (if nI y < nI x then nI y else nI x) = nI x := if_neg (nI_nlt h hy)
theorem cl0 : (0 : Int32).toNatClampNeg = 0 := by decide
def cpPost (M : Mm) (a0 n : Nat) : Option Value → Mm → Prop := fun r M' => ∃ (b : Nat) (h : Nat → Option Nat), r = some (.ref b) ∧ kd M b = 0 ∧ (∀ i, i < ln M a0 → h i = fR M a0 i) ∧ sW (al M b 300 n) b h = M'
set_option maxHeartbeats 4000000 in
set_option maxRecDepth 100000 in
theorem c_copy3 (E : Ev) (M : Mm) (a0 n : Nat) (k1 : 300 ≤ kd M a0 % 1000) (k2 : kd M a0 % 1000 < 390) (hln : ln M a0 ≤ n) (hn : n ≤ 150) (hel : ∀ i, i < ln M a0 → ∀ y, fR M a0 i = some y → 1 ≤ kd M y % 1000 ∧ kd M y % 1000 ≤ 11) : CT E yJ7_copyOf_6403c cJ7_copyOf_6403c 4 (some (.array (.object "java/lang/Object"))) 2 1 150 [.ref a0, .int (nI n), .ref (E.2.2.1 3)] M (cpPost M a0 n) noX := by
  refine CT.of rfl (Nat.le_of_ble_eq_true rfl) (fun X g hrt hno hE hN hR hI => ?_)
  subst hE
  refine z_aload_n g dJ7_copyOf_6403c_0 rfl ?_
  refine z_ldcM g cl_J7_110 dJ7_copyOf_6403c_1 ?_
  refine z_acmp_ne (tgt := 13) g dJ7_copyOf_6403c_3 (by decide) (fun c_3 => (by exact absurd rfl c_3)) (fun c_3 => ?_)
  refine z_iload_n g dJ7_copyOf_6403c_6 rfl ?_
  refine z_anew (N := n) g cl_J7_2 (nI_pos (by omega)) (nI_clamp (by omega)) (by omega) (by rw [hR]; decide) (by rw [hR]; show 0 + n ≤ 150; omega) dJ7_copyOf_6403c_7 (fun b hb => ?_)
  have hne : a0 ≠ b := fun z => by rw [z, hb] at k1; omega
  have kA : kd (al M b 300 n) a0 = kd M a0 := by rw [kd_al, if_neg hne]
  have lA : ln (al M b 300 n) a0 = ln M a0 := by rw [ln_al, if_neg hne]
  have rA : ∀ i, fR (al M b 300 n) a0 i = fR M a0 i := fun i => by rw [fR_al, if_neg hne]
  have kB : kd (al M b 300 n) b = 300 := by rw [kd_al, if_pos rfl]
  have lB : ln (al M b 300 n) b = n := by rw [ln_al, if_pos rfl]
  refine z_goto (tgt := 24) g dJ7_copyOf_6403c_10 (by decide) ?_
  refine z_astore_n g dJ7_copyOf_6403c_24 (by rw [hN]; decide) ?_
  refine z_aload_n g dJ7_copyOf_6403c_25 rfl ?_
  refine z_iconst (v := 0) g dJ7_copyOf_6403c_26 (by decide) ?_
  refine z_aload_n g dJ7_copyOf_6403c_27 rfl ?_
  refine z_iconst (v := 0) g dJ7_copyOf_6403c_28 (by decide) ?_
  refine z_aload_n g dJ7_copyOf_6403c_29 rfl ?_
  refine z_alenR g (by rw [kA]; exact k1) (by rw [kA]; omega) dJ7_copyOf_6403c_30 ?_
  rw [lA]
  refine z_iload_n g dJ7_copyOf_6403c_31 rfl ?_
  refine z_mmin g ml_J7_304 (by rw [hR]; decide) (by rw [hR]; exact Nat.le_of_ble_eq_true rfl) (by rw [hR]; decide) (by rw [hR]; show 0 + n ≤ 150; omega) dJ7_copyOf_6403c_32 ?_
  rw [min_e hln (by omega)]
  have hcl : (nI (ln M a0)).toNatClampNeg = ln M a0 := nI_clamp (by omega)
  refine z_acopy (k0 := kd M a0 % 1000) (k1 := 300) g acl_J7_150 acw2 acw3 acw4 (by rw [kA]) ⟨k1, k2⟩ (by rw [kB]) (by decide) (by decide) (by decide) (nI_pos (by omega)) (by rw [hcl, lA, cl0]; omega) (by rw [hcl, lB, cl0]; omega) (fun i hi y hy => ?_) (by rw [hR]; decide) (by rw [hR]; decide) dJ7_copyOf_6403c_35 ?_
  · rw [hcl] at hi
    rw [cl0, Nat.zero_add, rA] at hy
    have hyb : y ≠ b := fun z => by have h8 := (hel i hi y hy).1; rw [z, hb] at h8; omega
    rw [kd_al, if_neg hyb]
    exact hel i hi y hy
  refine z_aload_n g dJ7_copyOf_6403c_38 rfl ?_
  refine z_aret g hrt (Or.inr ⟨_, rfl⟩) (Or.inr ⟨_, rfl⟩) (by decide) (by show 0 + n ≤ 150; omega) dJ7_copyOf_6403c_39 ⟨b, _, rfl, hb, fun i hi => ?_, rfl⟩
  rw [hcl, cl0, va_cpy_lo hi, rA]
set_option maxHeartbeats 4000000 in
set_option maxRecDepth 100000 in
theorem c_copy2 (E : Ev) (M : Mm) (a0 n : Nat) (k1 : 300 ≤ kd M a0 % 1000) (k2 : kd M a0 % 1000 < 390) (hln : ln M a0 ≤ n) (hn : n ≤ 150) (hel : ∀ i, i < ln M a0 → ∀ y, fR M a0 i = some y → 1 ≤ kd M y % 1000 ∧ kd M y % 1000 ≤ 11) : CT E yJ7_copyOf_1904c cJ7_copyOf_1904c 2 (some (.array (.object "java/lang/Object"))) 3 1 150 [.ref a0, .int (nI n)] M (cpPost M a0 n) noX := by
  refine CT.of rfl (Nat.le_of_ble_eq_true rfl) (fun X g hrt hno hE hN hR hI => ?_)
  subst hE
  refine z_aload_n g dJ7_copyOf_1904c_0 rfl ?_
  refine z_iload_n g dJ7_copyOf_1904c_1 rfl ?_
  refine z_aload_n g dJ7_copyOf_1904c_2 rfl ?_
  refine z_getC g gcl_J7_86 gcw2 gcw3 gcw4 gcw5 rfl ⟨k1, k2⟩ (by rw [hR]; decide) (by rw [hR]; exact Nat.le_of_ble_eq_true rfl) dJ7_copyOf_1904c_3 ?_
  refine z_callS g _ _ cs_J7_300 (c_copy3 _ M a0 n k1 k2 hln hn hel) rfl (by rw [hR]; decide) (by rw [hR]; decide) (by rw [hR]; decide) (Nat.le_of_ble_eq_true rfl) rfl dJ7_copyOf_1904c_6 (fun _ _ h => False.elim h) (fun r_6 M_6 h_6 => ?_)
  obtain ⟨b, h, rfl, hb, hh, rfl⟩ := h_6
  exact z_aret g hrt (Or.inr ⟨_, rfl⟩) (Or.inr ⟨_, rfl⟩) (by decide) (by decide) dJ7_copyOf_1904c_9 ⟨b, h, rfl, hb, hh, rfl⟩
def grPost (M : Mm) (a e s : Nat) : Option Value → Mm → Prop := fun r M' => ∃ (b n : Nat) (h : Nat → Option Nat), r = some (.ref b) ∧ kd M b = 0 ∧ s < n ∧ n ≤ 150 ∧ (∀ i, i < s → h i = fR M e i) ∧ sR (sW (al M b 300 n) b h) a 1 (some b) = M'
theorem sW_al {M : Mm} {b k n : Nat} : sW (al M b k n) b (fun _ => none) = al M b k n := by
  have h : up1 (up1 M.2.2.2.1 b (fun _ => none)) b (fun _ => none) = up1 M.2.2.2.1 b (fun _ => none) := by
    funext q; unfold up1; split <;> rfl
  show (up1 M.1 b k, up1 M.2.1 b (fun _ => 0), up1 M.2.2.1 b (fun _ => 0), up1 (up1 M.2.2.2.1 b (fun _ => none)) b (fun _ => none), up1 M.2.2.2.2 b n) = _
  rw [h]; rfl
set_option maxHeartbeats 4000000 in
set_option maxRecDepth 100000 in
theorem c_growI (E : Ev) (M : Mm) (a e s : Nat) (ka : kd M a = 20) (k2 : fR M a 1 = some e) (hs : ln M e = s) (hs2 : s < 100) (he : (e = E.2.2.2.2 ∧ kd M e = 390 ∧ s = 0) ∨ (e ≠ E.2.2.2.2 ∧ kd M e = 300)) (hel : ∀ i, i < s → ∀ y, fR M e i = some y → 1 ≤ kd M y % 1000 ∧ kd M y % 1000 ≤ 11) : CT E yJx4a65c_grow_92f84 cJx4a65c_grow_92f84 4 (some (.array (.object "java/lang/Object"))) 4 1 150 [.ref a, .int (nI (s + 1))] M (grPost M a e s) noX := by
  refine CT.of rfl (Nat.le_of_ble_eq_true rfl) (fun X g hrt hno hE hN hR hI => ?_)
  subst hE
  have ke : 300 ≤ kd M e % 1000 ∧ kd M e % 1000 < 400 := by rcases he with ⟨-, y, -⟩ | ⟨-, y⟩ <;> rw [y] <;> decide
  refine z_aload_n g dJx4a65c_grow_92f84_0 rfl ?_
  refine z_getR g fl_Jx4a65c_9 (by rw [ka]) (by decide) rfl k2 dJx4a65c_grow_92f84_1 ?_
  refine z_alenR g ke.1 ke.2 dJx4a65c_grow_92f84_4 ?_
  rw [hs]
  refine z_istore_n g dJx4a65c_grow_92f84_5 (by rw [hN]; decide) ?_
  refine z_iload_n g dJx4a65c_grow_92f84_6 rfl ?_
  refine z_if_gt (tgt := 20) g dJx4a65c_grow_92f84_7 (by decide) (fun c_7 => ?_) (fun c_7 => ?_)
  · refine z_iload_n g dJx4a65c_grow_92f84_20 rfl ?_
    refine z_iload_n g dJx4a65c_grow_92f84_21 rfl ?_
    refine z_iload_n g dJx4a65c_grow_92f84_22 rfl ?_
    refine z_isub g dJx4a65c_grow_92f84_23 ?_
    rw [show nI (s + 1) - nI s = nI 1 by rw [pk_sub (by omega), show s + 1 - s = 1 by omega]]
    refine z_iload_n g dJx4a65c_grow_92f84_24 rfl ?_
    refine z_iconst (v := 1) g dJx4a65c_grow_92f84_25 (by decide) ?_
    refine z_ishr g dJx4a65c_grow_92f84_26 ?_
    rw [show nI s >>> ((1 : Int32) &&& 31) = nI (s / 2) from (by have h8 := pk_shrN (n := s) (by omega) ((1 : Int32) &&& 31) 1 (by decide); rw [Nat.pow_one] at h8; exact h8)]
    refine z_callS g _ _ cs_Jx4a65c_73 (c_newlen _ M s 1 (s / 2) (by omega) (by omega) (by omega) (by omega)) rfl (by rw [hR]; decide) (by rw [hR]; decide) (by rw [hR]; decide) (Nat.le_of_ble_eq_true rfl) rfl dJx4a65c_grow_92f84_27 (fun _ _ h => False.elim h) (fun r_27 M_27 h_27 => ?_)
    obtain ⟨rfl, rfl⟩ := h_27
    refine z_istore_n g dJx4a65c_grow_92f84_30 (by rw [hN]; decide) ?_
    refine z_aload_n g dJx4a65c_grow_92f84_31 rfl ?_
    refine z_aload_n g dJx4a65c_grow_92f84_32 rfl ?_
    have ke2 : kd M e % 1000 < 390 := by
      rcases he with ⟨y1, -, y3⟩ | ⟨-, y⟩
      · exfalso
        first
          | exact c_17 (congrArg some y1)
          | (rw [y3] at c_7; exact absurd c_7 (by decide))
      · rw [y]; decide
    refine z_getR g fl_Jx4a65c_9 (by rw [ka]) (by decide) rfl k2 dJx4a65c_grow_92f84_33 ?_
    refine z_iload_n g dJx4a65c_grow_92f84_36 rfl ?_
    refine z_callS g _ _ cs_Jx4a65c_66 (c_copy2 _ M e (s + max 1 (s / 2)) ke.1 ke2 (by omega) (by omega) (fun i hi => hel i (by rw [← hs]; exact hi))) rfl (by rw [hR]; decide) (by rw [hR]; decide) (by rw [hR]; decide) (Nat.le_of_ble_eq_true rfl) rfl dJx4a65c_grow_92f84_37 (fun _ _ h => False.elim h) (fun r_37 M_37 h_37 => ?_)
    obtain ⟨b, h, rfl, hb, hh, rfl⟩ := h_37
    have hne : a ≠ b := fun z => by rw [z, hb] at ka; cases ka
    refine z_dup_x1 g dJx4a65c_grow_92f84_40 rfl rfl ?_
    refine z_putR g fp_Jx4a65c_9 rfl (by rw [kd_sW, kd_al, if_neg hne, ka]) (by decide) rfl (fun h => nomatch h) dJx4a65c_grow_92f84_41 ?_
    exact z_aret g hrt (Or.inr ⟨_, rfl⟩) (Or.inr ⟨_, rfl⟩) (by decide) (by decide) dJx4a65c_grow_92f84_44 ⟨b, _, h, rfl, hb, by omega, by omega, fun i hi => hh i (by rw [hs]; exact hi), rfl⟩
  · refine z_aload_n g dJx4a65c_grow_92f84_10 rfl ?_
    refine z_getR g fl_Jx4a65c_9 (by rw [ka]) (by decide) rfl k2 dJx4a65c_grow_92f84_11 ?_
    refine z_gets g gs_39 dJx4a65c_grow_92f84_14 ?_
    refine z_acmp_eq (tgt := 45) g dJx4a65c_grow_92f84_17 (by decide) (fun c_17 => ?_) (fun c_17 => ?_)
    · have hs0 : s = 0 := by rcases he with ⟨-, -, y⟩ | ⟨y, -⟩; exact y; exact absurd (Option.some.inj c_17) y
      refine z_aload_n g dJx4a65c_grow_92f84_45 rfl ?_
      refine z_bipush (v := 10) g dJx4a65c_grow_92f84_46 (by decide) ?_
      refine z_iload_n g dJx4a65c_grow_92f84_48 rfl ?_
      refine z_mmax g ml_Jx4a65c_79 (by rw [hR]; decide) (by rw [hR]; exact Nat.le_of_ble_eq_true rfl) (by rw [hR]; decide) (by rw [hR]; decide) dJx4a65c_grow_92f84_49 ?_
      rw [show (if (10 : Int32) < nI (s + 1) then nI (s + 1) else (10 : Int32)) = nI 10 from (if_neg (show ¬ nI 10 < nI (s + 1) from nI_nlt (by omega) (by decide)))]
      refine z_anew (N := 10) g cl_Jx4a65c_7 (by decide) (by decide) (by decide) (by rw [hR]; decide) (by rw [hR]; decide) dJx4a65c_grow_92f84_52 (fun b hb => ?_)
      have hne : a ≠ b := fun z => by rw [z, hb] at ka; cases ka
      refine z_dup_x1 g dJx4a65c_grow_92f84_55 rfl rfl ?_
      refine z_putR g fp_Jx4a65c_9 rfl (by rw [kd_al, if_neg hne, ka]) (by decide) rfl (fun h => nomatch h) dJx4a65c_grow_92f84_56 ?_
      exact z_aret g hrt (Or.inr ⟨_, rfl⟩) (Or.inr ⟨_, rfl⟩) (by decide) (by decide) dJx4a65c_grow_92f84_59 ⟨b, 10, fun _ => none, rfl, hb, by omega, by decide, fun i hi => absurd hi (by omega), by rw [sW_al]⟩
    · refine z_iload_n g dJx4a65c_grow_92f84_20 rfl ?_
      refine z_iload_n g dJx4a65c_grow_92f84_21 rfl ?_
      refine z_iload_n g dJx4a65c_grow_92f84_22 rfl ?_
      refine z_isub g dJx4a65c_grow_92f84_23 ?_
      rw [show nI (s + 1) - nI s = nI 1 by rw [pk_sub (by omega), show s + 1 - s = 1 by omega]]
      refine z_iload_n g dJx4a65c_grow_92f84_24 rfl ?_
      refine z_iconst (v := 1) g dJx4a65c_grow_92f84_25 (by decide) ?_
      refine z_ishr g dJx4a65c_grow_92f84_26 ?_
      rw [show nI s >>> ((1 : Int32) &&& 31) = nI (s / 2) from (by have h8 := pk_shrN (n := s) (by omega) ((1 : Int32) &&& 31) 1 (by decide); rw [Nat.pow_one] at h8; exact h8)]
      refine z_callS g _ _ cs_Jx4a65c_73 (c_newlen _ M s 1 (s / 2) (by omega) (by omega) (by omega) (by omega)) rfl (by rw [hR]; decide) (by rw [hR]; decide) (by rw [hR]; decide) (Nat.le_of_ble_eq_true rfl) rfl dJx4a65c_grow_92f84_27 (fun _ _ h => False.elim h) (fun r_27 M_27 h_27 => ?_)
      obtain ⟨rfl, rfl⟩ := h_27
      refine z_istore_n g dJx4a65c_grow_92f84_30 (by rw [hN]; decide) ?_
      refine z_aload_n g dJx4a65c_grow_92f84_31 rfl ?_
      refine z_aload_n g dJx4a65c_grow_92f84_32 rfl ?_
      have ke2 : kd M e % 1000 < 390 := by
        rcases he with ⟨y1, -, y3⟩ | ⟨-, y⟩
        · exfalso
          first
            | exact c_17 (congrArg some y1)
            | (rw [y3] at c_7; exact absurd c_7 (by decide))
        · rw [y]; decide
      refine z_getR g fl_Jx4a65c_9 (by rw [ka]) (by decide) rfl k2 dJx4a65c_grow_92f84_33 ?_
      refine z_iload_n g dJx4a65c_grow_92f84_36 rfl ?_
      refine z_callS g _ _ cs_Jx4a65c_66 (c_copy2 _ M e (s + max 1 (s / 2)) ke.1 ke2 (by omega) (by omega) (fun i hi => hel i (by rw [← hs]; exact hi))) rfl (by rw [hR]; decide) (by rw [hR]; decide) (by rw [hR]; decide) (Nat.le_of_ble_eq_true rfl) rfl dJx4a65c_grow_92f84_37 (fun _ _ h => False.elim h) (fun r_37 M_37 h_37 => ?_)
      obtain ⟨b, h, rfl, hb, hh, rfl⟩ := h_37
      have hne : a ≠ b := fun z => by rw [z, hb] at ka; cases ka
      refine z_dup_x1 g dJx4a65c_grow_92f84_40 rfl rfl ?_
      refine z_putR g fp_Jx4a65c_9 rfl (by rw [kd_sW, kd_al, if_neg hne, ka]) (by decide) rfl (fun h => nomatch h) dJx4a65c_grow_92f84_41 ?_
      exact z_aret g hrt (Or.inr ⟨_, rfl⟩) (Or.inr ⟨_, rfl⟩) (by decide) (by decide) dJx4a65c_grow_92f84_44 ⟨b, _, h, rfl, hb, by omega, by omega, fun i hi => hh i (by rw [hs]; exact hi), rfl⟩
set_option maxHeartbeats 4000000 in
set_option maxRecDepth 100000 in
theorem c_grow0 (E : Ev) (M : Mm) (a e s : Nat) (ka : kd M a = 20) (k2 : fR M a 1 = some e) (hs : ln M e = s) (hs2 : s < 100) (he : (e = E.2.2.2.2 ∧ kd M e = 390 ∧ s = 0) ∨ (e ≠ E.2.2.2.2 ∧ kd M e = 300)) (hel : ∀ i, i < s → ∀ y, fR M e i = some y → 1 ≤ kd M y % 1000 ∧ kd M y % 1000 ≤ 11) (k3 : fI M a 2 = nI s) : CT E yJx4a65c_grow_d5877 cJx4a65c_grow_d5877 1 (some (.array (.object "java/lang/Object"))) 5 1 150 [.ref a] M (grPost M a e s) noX := by
  refine CT.of rfl (Nat.le_of_ble_eq_true rfl) (fun X g hrt hno hE hN hR hI => ?_)
  subst hE
  refine z_aload_n g dJx4a65c_grow_d5877_0 rfl ?_
  refine z_aload_n g dJx4a65c_grow_d5877_1 rfl ?_
  refine z_getI g fl_Jx4a65c_48 (by rw [ka]) (by decide) rfl dJx4a65c_grow_d5877_2 ?_
  rw [k3]
  refine z_iconst (v := 1) g dJx4a65c_grow_d5877_5 (by decide) ?_
  refine z_iadd g dJx4a65c_grow_d5877_6 ?_
  rw [nI_1]
  refine z_callV g _ _ cv_Jx4a65c_69 (c_growI _ M a e s ka k2 hs hs2 he hel) (by rw [ka]) (by decide) rfl (by rw [hR]; decide) (by rw [hR]; decide) (by rw [hR]; decide) (Nat.le_of_ble_eq_true rfl) rfl dJx4a65c_grow_d5877_7 (fun _ _ h => False.elim h) (fun r_7 M_7 h_7 => ?_)
  obtain ⟨b, n, h, rfl, hb, h1, h2, h3, rfl⟩ := h_7
  exact z_aret g hrt (Or.inr ⟨_, rfl⟩) (Or.inr ⟨_, rfl⟩) (by decide) (by decide) dJx4a65c_grow_d5877_10 ⟨b, n, h, rfl, hb, h1, h2, h3, rfl⟩
