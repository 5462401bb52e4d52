/-! ===== the law's own loops: what they need of the calls (by hand) ===== -/
theorem inB_t1 {a b : Nat} (h1 : 1 ≤ a) (h : a ≤ b) (hb : b < 2 ^ 30) : inB (nI a) 1 (nI b) = true := by
  unfold inB
  rw [decide_eq_false (fun z => by rw [show (1 : Int32) = nI 1 from rfl, nI_ltI (by omega) (by omega)] at z; omega), decide_eq_false (fun z => by rw [nI_ltI (by omega) (by omega)] at z; omega)]; rfl
theorem c_feature0 {S : Ms} (h : INV S) {k : Nat} (hk : k < 5) (hc : cn S 2 ≤ k) (o : Bool) : cFeature S (if o = true then 5 else 1) (nI k) (nI (9 * k)) = 0 := by
  have e1 : inB (if o = true then 5 else 1) 0 5 = true := by cases o <;> decide
  have e2 : plB2 (nI k) (nI (9 * k)) = true := by
    unfold plB2
    rw [show inB (nI k) 0 99 = true from inB_t (b := 99) (by omega) (by decide), show inB (nI (9 * k)) 0 99 = true from inB_t (b := 99) (by omega) (by decide)]; rfl
  unfold cFeature
  rw [e1, e2, if_neg (by decide), if_neg]
  rw [h.1.2.1.1, show (24 : Int32) = nI 24 from rfl, nI_eq (by omega) (by decide)]
  omega
theorem cn_feature {S : Ms} (h : INV S) (k p q : Int32) : cn (sFeature S k p q) 2 = cn S 2 + 1 := by
  show (gi S 2 + 1).toNatClampNeg = _
  rw [h.1.2.1.1, nI_s, nI_clamp (by have := h.c2; omega)]
theorem cn_gname {S : Ms} {a b c : Int32} {w : Int64} : cn (g_name a b c w S).2 2 = cn S 2 := by
  unfold g_name rz
  split <;> rfl
theorem c_pass0 {S : Ms} {n d : Nat} (hn : gi S 1 = nI n) (hn9 : n ≤ 9000) (h1 : 1 ≤ d) (h2 : d ≤ 400) : cPass S (nI d) = 0 := by
  unfold cPass
  rw [show inB (nI d) 1 400 = true from inB_t1 (b := 400) h1 h2 (by decide), if_neg (by decide), hn, nI_add, if_neg (fun z => z (by rw [show (9999 : Int32) = nI 9999 from rfl, nI_leI (by omega) (by decide)]; omega))]
/-- what holds between two rounds of the law -/
def LI (x y : Nat) (S : Ms) (n : Nat) : Prop := INV S ∧ JV S ∧ gi S 1 = nI n ∧ cn S 1 = n
theorem LI.of {x y : Nat} {S S' : Ms} {n : Nat} (h : LI x y S n) (hi : INV S') (hj : JV S') (hg : gi S' 1 = gi S 1) : LI x y S' n :=
  ⟨hi, hj, hg.trans h.2.2.1, by have := h.2.2.2; unfold cn at this ⊢; rw [hg]; exact this⟩
theorem LI.pass {x y : Nat} {S : Ms} {n d : Nat} (h : LI x y S n) (hn9 : n ≤ 9000) (h1 : 1 ≤ d) (h2 : d ≤ 400) : LI x y (sPass S (nI d)) (n + d) ∧ vPass S (nI d) = nI (n + d) := by
  obtain ⟨hV, hJ, hg, hc⟩ := h
  have c0 := c_pass0 hg hn9 h1 h2
  have hV2 := I_Pass hV c0
  have hJ2 := J_Pass hV hJ c0
  have e1 : cn (sPass S (nI d)) 1 = n + d := by
    unfold sPass
    rw [nI_clamp (show d < 2 ^ 31 by omega), (INV_psN hV d (by omega)).2, hc]
  have e2 : gi (sPass S (nI d)) 1 = nI (n + d) := by rw [hV2.1.1.1, e1]
  exact ⟨⟨hV2, hJ2, e2, e1⟩, e2⟩
