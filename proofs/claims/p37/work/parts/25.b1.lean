theorem nI_and (a b : Nat) : nI a &&& nI b = nI (a &&& b) := Int32.toBitVec_inj.mp (BitVec.ofNat_and).symm
theorem nI_or (a b : Nat) : nI a ||| nI b = nI (a ||| b) := Int32.toBitVec_inj.mp (BitVec.ofNat_or).symm
theorem ushr_n {n : Nat} (h : n < 2 ^ 31) {y : Int32} (k : Nat) (hk : (y.toUInt32 &&& Int32.toUInt32 31).toNat = k) (hk2 : k < 32) : ((nI n).toUInt32 >>> (y.toUInt32 &&& Int32.toUInt32 31)).toInt32 = nI (n / 2 ^ k) := by
  have e : (nI n).toUInt32 >>> (y.toUInt32 &&& Int32.toUInt32 31) = UInt32.ofNat (n / 2 ^ k) := by
    apply UInt32.toNat_inj.mp
    rw [UInt32.toNat_shiftRight, hk, Nat.mod_eq_of_lt hk2, Nat.shiftRight_eq_div_pow]
    have h1 : (nI n).toUInt32.toNat = n := by
      show (UInt32.ofNat n).toNat = n
      rw [UInt32.toNat_ofNat']
      exact Nat.mod_eq_of_lt (by omega)
    rw [h1, UInt32.toNat_ofNat']
    have h2 := Nat.div_le_self n (2 ^ k)
    exact (Nat.mod_eq_of_lt (by omega)).symm
  rw [e]; rfl
def pcf : Nat → Nat → Nat
  | 0, _ => 0
  | k + 1, n => n % 2 + pcf k (n / 2)
theorem pcf_add (j : Nat) : ∀ (k n : Nat), pcf (k + j) n = pcf k n + pcf j (n / 2 ^ k)
  | 0, n => by rw [show 0 + j = j by omega, Nat.pow_zero, Nat.div_one]; exact (Nat.zero_add _).symm
  | k + 1, n => by
    rw [show k + 1 + j = (k + j) + 1 by omega]
    show n % 2 + pcf (k + j) (n / 2) = n % 2 + pcf k (n / 2) + pcf j (n / 2 ^ (k + 1))
    rw [pcf_add j k (n / 2), Nat.div_div_eq_div_mul, Nat.pow_succ, Nat.mul_comm 2 (2 ^ k)]
    omega
theorem pcf_mod : ∀ (k n : Nat), pcf k n = pcf k (n % 2 ^ k)
  | 0, _ => rfl
  | k + 1, n => by
    show n % 2 + pcf k (n / 2) = n % 2 ^ (k + 1) % 2 + pcf k (n % 2 ^ (k + 1) / 2)
    rw [pcf_mod k (n / 2), pcf_mod k (n % 2 ^ (k + 1) / 2)]
    have h1 : n % 2 ^ (k + 1) % 2 = n % 2 := by
      rw [Nat.pow_succ, Nat.mul_comm, Nat.mod_mul_right_mod]
    have h2 : n % 2 ^ (k + 1) / 2 = n / 2 % 2 ^ k := by
      rw [Nat.pow_succ, Nat.mul_comm, Nat.mod_mul_right_div_self]
    rw [h1, h2, Nat.mod_mod]
def pop (n : Nat) : Nat := pcf 32 n
theorem pop4 {a b c d : Nat} (ha : a < 256) (hb : b < 256) (hc : c < 256) (hd : d < 256) : pop (a + 256 * b + 65536 * c + 16777216 * d) = pcf 8 a + pcf 8 b + pcf 8 c + pcf 8 d := by
  unfold pop
  rw [show (32 : Nat) = 8 + (8 + (8 + 8)) from rfl, pcf_add, pcf_add, pcf_add, pcf_mod 8 (a + _ + _ + _)]
  rw [show (2 : Nat) ^ 8 = 256 from rfl, pcf_mod 8 (_ / 256), pcf_mod 8 (_ / 256 / 256), pcf_mod 8 (_ / 256 / 256 / 256), show (2 : Nat) ^ 8 = 256 from rfl]
  rw [show (a + 256 * b + 65536 * c + 16777216 * d) % 256 = a by omega, show (a + 256 * b + 65536 * c + 16777216 * d) / 256 % 256 = b by omega, show (a + 256 * b + 65536 * c + 16777216 * d) / 256 / 256 % 256 = c by omega, show (a + 256 * b + 65536 * c + 16777216 * d) / 256 / 256 / 256 % 256 = d by omega]
  omega
theorem and_sp {a m : Nat} (b n : Nat) (ha : a < 256) (hm : m < 256) : (a + 256 * b) &&& (m + 256 * n) = (a &&& m) + 256 * (b &&& n) := by
  have h1 : ((a + 256 * b) &&& (m + 256 * n)) % 2 ^ 8 = a &&& m := by
    rw [Nat.and_mod_two_pow, show (a + 256 * b) % 2 ^ 8 = a by omega, show (m + 256 * n) % 2 ^ 8 = m by omega]
  have h2 : ((a + 256 * b) &&& (m + 256 * n)) / 2 ^ 8 = b &&& n := by
    rw [Nat.and_div_two_pow, show (a + 256 * b) / 2 ^ 8 = b by omega, show (m + 256 * n) / 2 ^ 8 = n by omega]
  omega
theorem and4 {a b c d m n o p : Nat} (ha : a < 256) (hb : b < 256) (hc : c < 256) (hm : m < 256) (hn : n < 256) (ho : o < 256) : (a + 256 * b + 65536 * c + 16777216 * d) &&& (m + 256 * n + 65536 * o + 16777216 * p) = (a &&& m) + 256 * (b &&& n) + 65536 * (c &&& o) + 16777216 * (d &&& p) := by
  rw [show a + 256 * b + 65536 * c + 16777216 * d = a + 256 * (b + 256 * (c + 256 * d)) by omega, show m + 256 * n + 65536 * o + 16777216 * p = m + 256 * (n + 256 * (o + 256 * p)) by omega, and_sp _ _ ha hm, and_sp _ _ hb hn, and_sp _ _ hc ho]
  omega
def bq (a : Nat) : Nat := a - ((a / 2) &&& 85)
def br (a : Nat) : Nat := (bq a &&& 51) + ((bq a / 4) &&& 51)
theorem b_1 : ∀ a, a < 256 → ∀ b, b < 2 → (a / 2 + 128 * b) &&& 85 = (a / 2) &&& 85 := by decide +kernel
theorem b_2 : ∀ a, a < 256 → (a / 2) &&& 85 ≤ a := by decide +kernel
theorem b_3 : ∀ a, a < 256 → ∀ b, b < 4 → (bq a / 4 + 64 * b) &&& 51 = (bq a / 4) &&& 51 := by decide +kernel
theorem b_4 : ∀ a, a < 256 → br a ≤ 68 ∧ br a % 16 ≤ 4 ∧ bq a ≤ a ∧ pcf 8 a ≤ 8 := by decide +kernel
theorem b_5 : ∀ a, a < 256 → ∀ b, b < 5 → (br a + br a / 16 + 16 * b) &&& 15 = pcf 8 a := by decide +kernel
theorem b_6 : ∀ a, a < 8 → br a ≤ 3 := by decide +kernel
theorem and63 (n : Nat) : n &&& 63 = n % 64 := Nat.and_two_pow_sub_one_eq_mod n 6
theorem swar4 {a b c d : Nat} (ha : a < 256) (hb : b < 256) (hc : c < 256) (hd : d < 8) :
    let x := a + 256 * b + 65536 * c + 16777216 * d
    let y := bq a + 256 * bq b + 65536 * bq c + 16777216 * bq d
    let z := br a + 256 * br b + 65536 * br c + 16777216 * br d
    let u := pcf 8 a + 256 * pcf 8 b + 65536 * pcf 8 c + 16777216 * pcf 8 d
    x - ((x / 2) &&& 1431655765) = y ∧ ((x / 2) &&& 1431655765) ≤ x ∧ (y &&& 858993459) + ((y / 4) &&& 858993459) = z ∧ (z + z / 16) &&& 252645135 = u ∧ z < 2 ^ 26 ∧ u < 2 ^ 28 ∧ y < 2 ^ 27 := by
  intro x y z u
  have hd' : d < 256 := by omega
  obtain ⟨a4, a5, a6, a7⟩ := b_4 a ha
  obtain ⟨b4, b5, b6, b7⟩ := b_4 b hb
  obtain ⟨c4, c5, c6, c7⟩ := b_4 c hc
  obtain ⟨d4, d5, d6, d7⟩ := b_4 d hd'
  have d8 := b_6 d hd
  have e1 : (x / 2) &&& 1431655765 = ((a / 2) &&& 85) + 256 * ((b / 2) &&& 85) + 65536 * ((c / 2) &&& 85) + 16777216 * ((d / 2) &&& 85) := by
    rw [show x / 2 = (a / 2 + 128 * (b % 2)) + 256 * (b / 2 + 128 * (c % 2)) + 65536 * (c / 2 + 128 * (d % 2)) + 16777216 * (d / 2 + 128 * 0) by show (a + 256 * b + 65536 * c + 16777216 * d) / 2 = _; omega, show (1431655765 : Nat) = 85 + 256 * 85 + 65536 * 85 + 16777216 * 85 from rfl, and4 (by omega) (by omega) (by omega) (by omega) (by omega) (by omega), b_1 a ha _ (by omega), b_1 b hb _ (by omega), b_1 c hc _ (by omega), b_1 d hd' _ (by omega)]
  have a2 := b_2 a ha
  have b2 := b_2 b hb
  have c2 := b_2 c hc
  have d2 := b_2 d hd'
  have qa : bq a = a - ((a / 2) &&& 85) := rfl
  have qb : bq b = b - ((b / 2) &&& 85) := rfl
  have qc : bq c = c - ((c / 2) &&& 85) := rfl
  have qd : bq d = d - ((d / 2) &&& 85) := rfl
  have ra : br a = (bq a &&& 51) + ((bq a / 4) &&& 51) := rfl
  have rb : br b = (bq b &&& 51) + ((bq b / 4) &&& 51) := rfl
  have rc : br c = (bq c &&& 51) + ((bq c / 4) &&& 51) := rfl
  have rd : br d = (bq d &&& 51) + ((bq d / 4) &&& 51) := rfl
  refine ⟨?_, ?_, ?_, ?_, ?_, ?_, ?_⟩
  · rw [e1]; show a + 256 * b + 65536 * c + 16777216 * d - _ = bq a + 256 * bq b + 65536 * bq c + 16777216 * bq d; omega
  · rw [e1]; show _ ≤ a + 256 * b + 65536 * c + 16777216 * d; omega
  · rw [show y / 4 = (bq a / 4 + 64 * (bq b % 4)) + 256 * (bq b / 4 + 64 * (bq c % 4)) + 65536 * (bq c / 4 + 64 * (bq d % 4)) + 16777216 * (bq d / 4 + 64 * 0) by show (bq a + 256 * bq b + 65536 * bq c + 16777216 * bq d) / 4 = _; omega, show (858993459 : Nat) = 51 + 256 * 51 + 65536 * 51 + 16777216 * 51 from rfl]
    show ((bq a + 256 * bq b + 65536 * bq c + 16777216 * bq d) &&& _) + _ = br a + 256 * br b + 65536 * br c + 16777216 * br d
    rw [and4 (by omega) (by omega) (by omega) (by omega) (by omega) (by omega), and4 (by omega) (by omega) (by omega) (by omega) (by omega) (by omega), b_3 a ha _ (by omega), b_3 b hb _ (by omega), b_3 c hc _ (by omega), b_3 d hd' _ (by omega)]
    omega
  · rw [show z + z / 16 = (br a + br a / 16 + 16 * (br b % 16)) + 256 * (br b + br b / 16 + 16 * (br c % 16)) + 65536 * (br c + br c / 16 + 16 * (br d % 16)) + 16777216 * (br d + br d / 16 + 16 * 0) by show (br a + 256 * br b + 65536 * br c + 16777216 * br d) + (br a + 256 * br b + 65536 * br c + 16777216 * br d) / 16 = _; omega, show (252645135 : Nat) = 15 + 256 * 15 + 65536 * 15 + 16777216 * 15 from rfl, and4 (by omega) (by omega) (by omega) (by omega) (by omega) (by omega), b_5 a ha _ (by omega), b_5 b hb _ (by omega), b_5 c hc _ (by omega), b_5 d hd' _ (by omega)]
  · show br a + 256 * br b + 65536 * br c + 16777216 * br d < 2 ^ 26; omega
  · show pcf 8 a + 256 * pcf 8 b + 65536 * pcf 8 c + 16777216 * pcf 8 d < 2 ^ 28; omega
  · show bq a + 256 * bq b + 65536 * bq c + 16777216 * bq d < 2 ^ 27; omega
theorem bytes (x : Nat) (hx : x < 2 ^ 27) : ∃ a b c d, a < 256 ∧ b < 256 ∧ c < 256 ∧ d < 8 ∧ x = a + 256 * b + 65536 * c + 16777216 * d := ⟨x % 256, x / 256 % 256, x / 65536 % 256, x / 16777216, by omega, by omega, by omega, by omega, by omega⟩
theorem pop_le {x : Nat} (hx : x < 2 ^ 27) : pop x ≤ 32 := by
  obtain ⟨a, b, c, d, ha, hb, hc, hd, rfl⟩ := bytes x hx
  rw [pop4 ha hb hc (by omega)]
  have := b_4 a ha
  have := b_4 b hb
  have := b_4 c hc
  have := b_4 d (by omega)
  omega
theorem low6 {a b c d : Nat} (ha : a ≤ 8) (hb : b ≤ 8) (hc : c ≤ 8) (hd : d ≤ 8) : ((a + 256 * b + 65536 * c + 16777216 * d + (a + 256 * b + 65536 * c + 16777216 * d) / 256) + (a + 256 * b + 65536 * c + 16777216 * d + (a + 256 * b + 65536 * c + 16777216 * d) / 256) / 65536) % 64 = a + b + c + d := by
  rw [show (a + 256 * b + 65536 * c + 16777216 * d) / 256 = b + 256 * c + 65536 * d by omega]
  rw [show (a + 256 * b + 65536 * c + 16777216 * d + (b + 256 * c + 65536 * d)) / 65536 = c + d + 256 * d by omega]
  omega
set_option maxHeartbeats 4000000 in
set_option maxRecDepth 100000 in
theorem c_bitc (E : Ev) (M : Mm) (x : Nat) (hx : x < 2 ^ 27) : CT E yJ6_bitCount_0f7a4 cJ6_bitCount_0f7a4 1 (some .int) 1 0 0 [.int (nI x)] M (ansI (nI (pop x)) M) noX := by
  refine CT.of rfl (Nat.le_of_ble_eq_true rfl) (fun X g hrt hno hE hN hR hI => ?_)
  subst hE
  obtain ⟨a, b, c, d, ha, hb, hc, hd, rfl⟩ := bytes x hx
  obtain ⟨h1, h2, h3, h4, h5, h6, h7⟩ := swar4 ha hb hc hd
  have p1 := (b_4 a ha).2.2.2
  have p2 := (b_4 b hb).2.2.2
  have p3 := (b_4 c hc).2.2.2
  have p4 := (b_4 d (by omega)).2.2.2
  refine z_iload_n g dJ6_bitCount_0f7a4_0 rfl ?_
  refine z_iload_n g dJ6_bitCount_0f7a4_1 rfl ?_
  refine z_iconst (v := 1) g dJ6_bitCount_0f7a4_2 (by decide) ?_
  refine z_iushr g dJ6_bitCount_0f7a4_3 ?_
  rw [ushr_n (n := a + 256 * b + 65536 * c + 16777216 * d) (by omega) 1 (by decide) (by decide)]
  refine z_ldcw g dJ6_bitCount_0f7a4_4 kc_J6_265 ?_
  refine z_iand g dJ6_bitCount_0f7a4_7 ?_
  rw [show (1431655765 : Int32) = nI 1431655765 from rfl, nI_and]
  refine z_isub g dJ6_bitCount_0f7a4_8 ?_
  rw [pk_sub h2, h1]
  refine z_istore_n g dJ6_bitCount_0f7a4_9 (by rw [hN]; decide) ?_
  refine z_iload_n g dJ6_bitCount_0f7a4_10 rfl ?_
  refine z_ldcw g dJ6_bitCount_0f7a4_11 kc_J6_266 ?_
  refine z_iand g dJ6_bitCount_0f7a4_14 ?_
  rw [show (858993459 : Int32) = nI 858993459 from rfl, nI_and]
  refine z_iload_n g dJ6_bitCount_0f7a4_15 rfl ?_
  refine z_iconst (v := 2) g dJ6_bitCount_0f7a4_16 (by decide) ?_
  refine z_iushr g dJ6_bitCount_0f7a4_17 ?_
  rw [ushr_n (n := bq a + 256 * bq b + 65536 * bq c + 16777216 * bq d) (by omega) 2 (by decide) (by decide)]
  refine z_ldcw g dJ6_bitCount_0f7a4_18 kc_J6_266 ?_
  refine z_iand g dJ6_bitCount_0f7a4_21 ?_
  rw [show (858993459 : Int32) = nI 858993459 from rfl, nI_and]
  refine z_iadd g dJ6_bitCount_0f7a4_22 ?_
  rw [nI_add, show (2 : Nat) ^ 2 = 4 from rfl, h3]
  refine z_istore_n g dJ6_bitCount_0f7a4_23 (by rw [hN]; decide) ?_
  refine z_iload_n g dJ6_bitCount_0f7a4_24 rfl ?_
  refine z_iload_n g dJ6_bitCount_0f7a4_25 rfl ?_
  refine z_iconst (v := 4) g dJ6_bitCount_0f7a4_26 (by decide) ?_
  refine z_iushr g dJ6_bitCount_0f7a4_27 ?_
  rw [ushr_n (n := br a + 256 * br b + 65536 * br c + 16777216 * br d) (by omega) 4 (by decide) (by decide)]
  refine z_iadd g dJ6_bitCount_0f7a4_28 ?_
  rw [nI_add, show (2 : Nat) ^ 4 = 16 from rfl]
  refine z_ldcw g dJ6_bitCount_0f7a4_29 kc_J6_267 ?_
  refine z_iand g dJ6_bitCount_0f7a4_32 ?_
  rw [show (252645135 : Int32) = nI 252645135 from rfl, nI_and, h4]
  refine z_istore_n g dJ6_bitCount_0f7a4_33 (by rw [hN]; decide) ?_
  refine z_iload_n g dJ6_bitCount_0f7a4_34 rfl ?_
  refine z_iload_n g dJ6_bitCount_0f7a4_35 rfl ?_
  refine z_bipush (v := 8) g dJ6_bitCount_0f7a4_36 (by decide) ?_
  refine z_iushr g dJ6_bitCount_0f7a4_38 ?_
  rw [ushr_n (n := pcf 8 a + 256 * pcf 8 b + 65536 * pcf 8 c + 16777216 * pcf 8 d) (by omega) 8 (by decide) (by decide)]
  refine z_iadd g dJ6_bitCount_0f7a4_39 ?_
  rw [nI_add, show (2 : Nat) ^ 8 = 256 from rfl]
  refine z_istore_n g dJ6_bitCount_0f7a4_40 (by rw [hN]; decide) ?_
  refine z_iload_n g dJ6_bitCount_0f7a4_41 rfl ?_
  refine z_iload_n g dJ6_bitCount_0f7a4_42 rfl ?_
  refine z_bipush (v := 16) g dJ6_bitCount_0f7a4_43 (by decide) ?_
  refine z_iushr g dJ6_bitCount_0f7a4_45 ?_
  rw [ushr_n (by omega) 16 (by decide) (by decide)]
  refine z_iadd g dJ6_bitCount_0f7a4_46 ?_
  rw [nI_add, show (2 : Nat) ^ 16 = 65536 from rfl]
  refine z_istore_n g dJ6_bitCount_0f7a4_47 (by rw [hN]; decide) ?_
  refine z_iload_n g dJ6_bitCount_0f7a4_48 rfl ?_
  refine z_bipush (v := 63) g dJ6_bitCount_0f7a4_49 (by decide) ?_
  refine z_iand g dJ6_bitCount_0f7a4_51 ?_
  rw [show (63 : Int32) = nI 63 from rfl, nI_and, and63]
  exact z_iret g hrt rfl (by decide) (by decide) dJ6_bitCount_0f7a4_52 ⟨by rw [pop4 ha hb hc (by omega)]; rw [low6 p1 p2 p3 p4], rfl⟩
