theorem LK.el {M : Mm} {a c : Nat} (h : LK M a c) (h1 : 1 ≤ c) (h2 : c ≤ 11) : ∀ i, i < ln M a → ∀ y, fR M a i = some y → 1 ≤ kd M y % 1000 ∧ kd M y % 1000 ≤ 11 := fun i hi y hy => by
  obtain ⟨e1, e2⟩ := h.2.2 i hi
  rw [e1] at hy; cases hy; omega
def alL (M : Mm) (a c : Nat) : Mm := sN (sK (al M a 20 0) a c) a 0
def psh (M : Mm) (a v : Nat) : Mm := sR (sN M a (ln M a + 1)) a (ln M a) (some v)
theorem c_add2 (E : Ev) (M : Mm) (a v : Nat) {c : Nat} (h : LK M a c) (h1 : 1 ≤ c) (h2 : c ≤ 11) (hl : ln M a < 100) (hv : kd M v % 1000 = c) : CT E yJx4a65c_add_9ea2d cJx4a65c_add_9ea2d 2 (some .boolean) 7 1 150 [.ref a, .ref v] M (fun r M' => r = some (.int 1) ∧ psh M a v = M') noX :=
  c_add1 E M a v h.1 hl (by omega) (h.el h1 h2)
set_option maxHeartbeats 4000000 in
set_option maxRecDepth 100000 in
theorem c_X1i (E : Ev) (M : Mm) (a : Nat) (k1 : kd M a % 1000 = 2) (v d k : Int32) : CT E yX1_init cX1_init 4 none 1 0 0 [.ref a, .int v, .int d, .int k] M (ansV (sI (sI (sI M a 0 v) a 1 d) a 2 k)) noX := by
  refine CT.of rfl (Nat.le_of_ble_eq_true rfl) (fun X g hrt hno hE hN hR hI => ?_)
  subst hE
  refine z_aload_n g dX1_init_0 rfl ?_
  refine z_objInit g oi_X1 oi_inst oi_code (by rw [hR]; decide) (by rw [hR]; decide) dX1_init_1 ?_
  refine z_aload_n g dX1_init_4 rfl ?_
  refine z_iload_n g dX1_init_5 rfl ?_
  refine z_putI g fp_X1_7 (by show kd M a % 1000 = 2; exact k1) (by decide) rfl (fun _ => hI rfl) dX1_init_6 ?_
  refine z_aload_n g dX1_init_9 rfl ?_
  refine z_iload_n g dX1_init_10 rfl ?_
  refine z_putI g fp_X1_13 (by show kd M a % 1000 = 2; exact k1) (by decide) rfl (fun _ => hI rfl) dX1_init_11 ?_
  refine z_aload_n g dX1_init_14 rfl ?_
  refine z_iload_n g dX1_init_15 rfl ?_
  refine z_putI g fp_X1_16 (by show kd M a % 1000 = 2; exact k1) (by decide) rfl (fun _ => hI rfl) dX1_init_16 ?_
  exact z_vret g hrt (by decide) (by decide) dX1_init_19 ⟨rfl, rfl⟩
set_option maxHeartbeats 4000000 in
set_option maxRecDepth 100000 in
theorem c_X2i (E : Ev) (M : Mm) (a : Nat) (k1 : kd M a % 1000 = 3) (v d k : Int32) : CT E yX2_init cX2_init 4 none 1 0 0 [.ref a, .int v, .int d, .int k] M (ansV (sI (sI (sI M a 0 v) a 1 d) a 2 k)) noX := by
  refine CT.of rfl (Nat.le_of_ble_eq_true rfl) (fun X g hrt hno hE hN hR hI => ?_)
  subst hE
  refine z_aload_n g dX2_init_0 rfl ?_
  refine z_objInit g oi_X2 oi_inst oi_code (by rw [hR]; decide) (by rw [hR]; decide) dX2_init_1 ?_
  refine z_aload_n g dX2_init_4 rfl ?_
  refine z_iload_n g dX2_init_5 rfl ?_
  refine z_putI g fp_X2_7 (by show kd M a % 1000 = 3; exact k1) (by decide) rfl (fun _ => hI rfl) dX2_init_6 ?_
  refine z_aload_n g dX2_init_9 rfl ?_
  refine z_iload_n g dX2_init_10 rfl ?_
  refine z_putI g fp_X2_13 (by show kd M a % 1000 = 3; exact k1) (by decide) rfl (fun _ => hI rfl) dX2_init_11 ?_
  refine z_aload_n g dX2_init_14 rfl ?_
  refine z_iload_n g dX2_init_15 rfl ?_
  refine z_putI g fp_X2_16 (by show kd M a % 1000 = 3; exact k1) (by decide) rfl (fun _ => hI rfl) dX2_init_16 ?_
  exact z_vret g hrt (by decide) (by decide) dX2_init_19 ⟨rfl, rfl⟩
set_option maxHeartbeats 4000000 in
set_option maxRecDepth 100000 in
theorem c_X8i (E : Ev) (M : Mm) (a : Nat) (k1 : kd M a % 1000 = 9) (w : Int64) (x y : Int32) : CT E yX8_init cX8_init 5 none 1 0 0 [.ref a, .long w, .int x, .int y] M (ansV (sI (sI (sL M a 0 w) a 1 x) a 2 y)) noX := by
  refine CT.of rfl (Nat.le_of_ble_eq_true rfl) (fun X g hrt hno hE hN hR hI => ?_)
  subst hE
  refine z_aload_n g dX8_init_0 rfl ?_
  refine z_objInit g oi_X8 oi_inst oi_code (by rw [hR]; decide) (by rw [hR]; decide) dX8_init_1 ?_
  refine z_aload_n g dX8_init_4 rfl ?_
  refine z_lload_n g dX8_init_5 rfl ?_
  refine z_putL g fp_X8_7 (by show kd M a % 1000 = 9; exact k1) (by decide) rfl (fun _ => hI rfl) dX8_init_6 ?_
  refine z_aload_n g dX8_init_9 rfl ?_
  refine z_iload_n g dX8_init_10 rfl ?_
  refine z_putI g fp_X8_13 (by show kd M a % 1000 = 9; exact k1) (by decide) rfl (fun _ => hI rfl) dX8_init_11 ?_
  refine z_aload_n g dX8_init_14 rfl ?_
  refine z_iload g dX8_init_15 rfl ?_
  refine z_putI g fp_X8_17 (by show kd M a % 1000 = 9; exact k1) (by decide) rfl (fun _ => hI rfl) dX8_init_17 ?_
  exact z_vret g hrt (by decide) (by decide) dX8_init_20 ⟨rfl, rfl⟩
set_option maxHeartbeats 4000000 in
set_option maxRecDepth 100000 in
theorem c_X5i (E : Ev) (M : Mm) (a : Nat) (k1 : kd M a % 1000 = 6) (t d k l f s : Int32) : CT E yX5_init cX5_init 7 none 1 0 0 [.ref a, .int t, .int d, .int k, .int l, .int f, .int s] M (ansV (sI (sI (sI (sI (sI (sI M a 0 t) a 1 d) a 2 k) a 3 l) a 4 f) a 5 s)) noX := by
  refine CT.of rfl (Nat.le_of_ble_eq_true rfl) (fun X g hrt hno hE hN hR hI => ?_)
  subst hE
  refine z_aload_n g dX5_init_0 rfl ?_
  refine z_objInit g oi_X5 oi_inst oi_code (by rw [hR]; decide) (by rw [hR]; decide) dX5_init_1 ?_
  refine z_aload_n g dX5_init_4 rfl ?_
  refine z_iload_n g dX5_init_5 rfl ?_
  refine z_putI g fp_X5_9 (by show kd M a % 1000 = 6; exact k1) (by decide) rfl (fun _ => hI rfl) dX5_init_6 ?_
  refine z_aload_n g dX5_init_9 rfl ?_
  refine z_iload_n g dX5_init_10 rfl ?_
  refine z_putI g fp_X5_15 (by show kd M a % 1000 = 6; exact k1) (by decide) rfl (fun _ => hI rfl) dX5_init_11 ?_
  refine z_aload_n g dX5_init_14 rfl ?_
  refine z_iload_n g dX5_init_15 rfl ?_
  refine z_putI g fp_X5_18 (by show kd M a % 1000 = 6; exact k1) (by decide) rfl (fun _ => hI rfl) dX5_init_16 ?_
  refine z_aload_n g dX5_init_19 rfl ?_
  refine z_iload g dX5_init_20 rfl ?_
  refine z_putI g fp_X5_21 (by show kd M a % 1000 = 6; exact k1) (by decide) rfl (fun _ => hI rfl) dX5_init_22 ?_
  refine z_aload_n g dX5_init_25 rfl ?_
  refine z_iload g dX5_init_26 rfl ?_
  refine z_putI g fp_X5_24 (by show kd M a % 1000 = 6; exact k1) (by decide) rfl (fun _ => hI rfl) dX5_init_28 ?_
  refine z_aload_n g dX5_init_31 rfl ?_
  refine z_iload g dX5_init_32 rfl ?_
  refine z_putI g fp_X5_27 (by show kd M a % 1000 = 6; exact k1) (by decide) rfl (fun _ => hI rfl) dX5_init_34 ?_
  exact z_vret g hrt (by decide) (by decide) dX5_init_37 ⟨rfl, rfl⟩
set_option maxHeartbeats 4000000 in
set_option maxRecDepth 100000 in
theorem c_X6i (E : Ev) (M : Mm) (a : Nat) (k1 : kd M a % 1000 = 7) (t : Int32) (w : Int64) (d k : Int32) : CT E yX6_init cX6_init 6 none 1 0 0 [.ref a, .int t, .long w, .int d, .int k] M (ansV (sI (sI (sL (sI M a 0 t) a 1 w) a 2 d) a 3 k)) noX := by
  refine CT.of rfl (Nat.le_of_ble_eq_true rfl) (fun X g hrt hno hE hN hR hI => ?_)
  subst hE
  refine z_aload_n g dX6_init_0 rfl ?_
  refine z_objInit g oi_X6 oi_inst oi_code (by rw [hR]; decide) (by rw [hR]; decide) dX6_init_1 ?_
  refine z_aload_n g dX6_init_4 rfl ?_
  refine z_iload_n g dX6_init_5 rfl ?_
  refine z_putI g fp_X6_7 (by show kd M a % 1000 = 7; exact k1) (by decide) rfl (fun _ => hI rfl) dX6_init_6 ?_
  refine z_aload_n g dX6_init_9 rfl ?_
  refine z_lload_n g dX6_init_10 rfl ?_
  refine z_putL g fp_X6_13 (by show kd M a % 1000 = 7; exact k1) (by decide) rfl (fun _ => hI rfl) dX6_init_11 ?_
  refine z_aload_n g dX6_init_14 rfl ?_
  refine z_iload g dX6_init_15 rfl ?_
  refine z_putI g fp_X6_17 (by show kd M a % 1000 = 7; exact k1) (by decide) rfl (fun _ => hI rfl) dX6_init_17 ?_
  refine z_aload_n g dX6_init_20 rfl ?_
  refine z_iload g dX6_init_21 rfl ?_
  refine z_putI g fp_X6_20 (by show kd M a % 1000 = 7; exact k1) (by decide) rfl (fun _ => hI rfl) dX6_init_23 ?_
  exact z_vret g hrt (by decide) (by decide) dX6_init_26 ⟨rfl, rfl⟩
set_option maxHeartbeats 4000000 in
set_option maxRecDepth 100000 in
theorem c_X7i (E : Ev) (M : Mm) (a : Nat) (k1 : kd M a % 1000 = 8) (f : Nat) (t : Int32) (w : Int64) (d : Int32) : CT E yX7_init cX7_init 6 none 1 0 0 [.ref a, .ref f, .int t, .long w, .int d] M (ansV (sI (sL (sI (sR (sI (sI M a 4 0) a 8 (-1)) a 0 (some f)) a 1 t) a 2 w) a 3 d)) noX := by
  refine CT.of rfl (Nat.le_of_ble_eq_true rfl) (fun X g hrt hno hE hN hR hI => ?_)
  subst hE
  refine z_aload_n g dX7_init_0 rfl ?_
  refine z_objInit g oi_X7 oi_inst oi_code (by rw [hR]; decide) (by rw [hR]; decide) dX7_init_1 ?_
  refine z_aload_n g dX7_init_4 rfl ?_
  refine z_iconst (v := 0) g dX7_init_5 (by decide) ?_
  refine z_putI g fp_X7_9 (by show kd M a % 1000 = 8; exact k1) (by decide) rfl (fun h => nomatch h) dX7_init_6 ?_
  refine z_aload_n g dX7_init_9 rfl ?_
  refine z_iconst (v := (-1)) g dX7_init_10 (by decide) ?_
  refine z_putI g fp_X7_15 (by show kd M a % 1000 = 8; exact k1) (by decide) rfl (fun h => nomatch h) dX7_init_11 ?_
  refine z_aload_n g dX7_init_14 rfl ?_
  refine z_aload_n g dX7_init_15 rfl ?_
  refine z_putR g fp_X7_18 rfl (by show kd M a % 1000 = 8; exact k1) (by decide) rfl (fun _ => hI rfl) dX7_init_16 ?_
  refine z_aload_n g dX7_init_19 rfl ?_
  refine z_iload_n g dX7_init_20 rfl ?_
  refine z_putI g fp_X7_22 (by show kd M a % 1000 = 8; exact k1) (by decide) rfl (fun _ => hI rfl) dX7_init_21 ?_
  refine z_aload_n g dX7_init_24 rfl ?_
  refine z_lload_n g dX7_init_25 rfl ?_
  refine z_putL g fp_X7_25 (by show kd M a % 1000 = 8; exact k1) (by decide) rfl (fun _ => hI rfl) dX7_init_26 ?_
  refine z_aload_n g dX7_init_29 rfl ?_
  refine z_iload g dX7_init_30 rfl ?_
  refine z_putI g fp_X7_29 (by show kd M a % 1000 = 8; exact k1) (by decide) rfl (fun _ => hI rfl) dX7_init_32 ?_
  exact z_vret g hrt (by decide) (by decide) dX7_init_35 ⟨rfl, rfl⟩
theorem kd_alL {M : Mm} {a c b : Nat} : kd (alL M a c) b = if b = a then c else kd M b := by
  unfold alL; rw [kd_sN, kd_sK]; split
  · rfl
  · rename_i h; rw [kd_al, if_neg h]
set_option maxHeartbeats 4000000 in
set_option maxRecDepth 100000 in
theorem c_X4i (E : Ev) (M : Mm) (a c : Nat) (k1 : kd M a % 1000 = 5) (hc : 400 ≤ c % 1000) : CT E yX4_init cX4_init 1 none 4 1 3 [.ref a] M ((fun r M' => ∃ b, kd M b = 0 ∧ r = none ∧ M' = sR (alL M b c) a 0 (some b))) noX := by
  refine CT.of rfl (Nat.le_of_ble_eq_true rfl) (fun X g hrt hno hE hN hR hI => ?_)
  subst hE
  refine z_aload_n g dX4_init_0 rfl ?_
  refine z_objInit g oi_X4 oi_inst oi_code (by rw [hR]; decide) (by rw [hR]; decide) dX4_init_1 ?_
  refine z_aload_n g dX4_init_4 rfl ?_
  refine z_new g 20 nw_X4_9 (by decide) (by decide) (by rw [hR]; decide) (by rw [hR]; decide) dX4_init_5 (fun b hb => ?_)
  refine z_dup g dX4_init_8 rfl ?_
  refine z_callI g _ _ ci_X4_11 (c_alinit _ _ b c (by rw [kd_al, if_pos rfl]) (by rw [fI_al, if_pos rfl]) (by omega)) rfl (by rw [hR]; decide) (by rw [hR]; decide) (by rw [hR]; decide) (Nat.le_of_ble_eq_true rfl) rfl dX4_init_9 (fun _ _ h => False.elim h) (fun r_9 M_9 h_9 => ?_)
  obtain ⟨rfl, rfl⟩ := h_9
  refine z_putR g fp_X4_12 rfl (by show kd (alL M b c) a % 1000 = 5; rw [kd_alL, if_neg (fun z => by rw [z, hb] at k1; cases k1)]; exact k1) (by decide) rfl (fun _ => hI rfl) dX4_init_12 ?_
  exact z_vret g hrt (by decide) (by decide) dX4_init_15 ⟨b, hb, rfl, rfl⟩
def entM (M : Mm) (e ke : Nat) (v d n : Int32) : Mm := sI (sI (sI (al M e ke 0) e 0 v) e 1 d) e 2 n
theorem kd_entM {M : Mm} {e ke b : Nat} {v d n : Int32} : kd (entM M e ke v d n) b = if b = e then ke else kd M b := rfl
theorem ln_entM {M : Mm} {e ke b : Nat} {v d n : Int32} : ln (entM M e ke v d n) b = if b = e then 0 else ln M b := rfl
theorem fR_entM {M : Mm} {e ke b k : Nat} {v d n : Int32} (h : b ≠ e) : fR (entM M e ke v d n) b k = fR M b k := by
  show fR (al M e ke 0) b k = _
  rw [fR_al, if_neg h]
theorem LK_ext {M M' : Mm} {l c : Nat} (h : LK M l c) (hl : kd M' l = kd M l) (h2 : ln M' l = ln M l) (h3 : ∀ i, i < ln M l → fR M' l i = fR M l i) (h4 : ∀ i, i < ln M l → kd M' (elt M l i) % 1000 = c) : LK M' l c := by
  refine ⟨by rw [hl]; exact h.1, by rw [h2]; exact h.2.1, fun i hi => ?_⟩
  rw [h2] at hi
  have e : elt M' l i = elt M l i := by unfold elt; rw [h3 i hi]
  rw [e, h3 i hi]
  exact ⟨(h.2.2 i hi).1, h4 i hi⟩
theorem LK_ent {M : Mm} {l e ke : Nat} {v d n : Int32} {c : Nat} (h : LK M l (c + 1)) (he : kd M e = 0) (hle : l ≠ e) : LK (entM M e ke v d n) l (c + 1) := by
  refine LK_ext h (by rw [kd_entM, if_neg hle]) (by rw [ln_entM, if_neg hle]) (fun i _ => fR_entM hle) (fun i hi => ?_)
  rw [kd_entM, if_neg (fun z => ?_)]
  · exact (h.2.2 i hi).2
  · have := (h.2.2 i hi).2
    rw [z, he] at this; omega
set_option maxHeartbeats 4000000 in
set_option maxRecDepth 100000 in
theorem c_tell (E : Ev) (M : Mm) (h l ke : Nat) (k1 : kd M h % 1000 = 5) (hh : fR M h 0 = some l) (hl4 : LK M l 2) (hll : ln M l < 100) (hke : ke % 1000 = 2) (v d n : Int32) : CT E yX4_tell cX4_tell 4 none 8 2 153 [.ref h, .int v, .int d, .int n] M ((fun r M' => ∃ e, kd M e = 0 ∧ r = none ∧ M' = psh (entM M e ke v d n) l e)) noX := by
  refine CT.of rfl (Nat.le_of_ble_eq_true rfl) (fun X g hrt hno hE hN hR hI => ?_)
  subst hE
  refine z_aload_n g dX4_tell_0 rfl ?_
  refine z_getR g fl_X4_12 (by assumption) (by decide) rfl (by assumption) dX4_tell_1 ?_
  refine z_new g ke nw_X4_22 hke (by decide) (by rw [hR]; decide) (by rw [hR]; exact Nat.le_of_ble_eq_true rfl) dX4_tell_4 (fun e he => ?_)
  refine z_dup g dX4_tell_7 rfl ?_
  refine z_iload_n g dX4_tell_8 rfl ?_
  refine z_iload_n g dX4_tell_9 rfl ?_
  refine z_iload_n g dX4_tell_10 rfl ?_
  refine z_callI g _ _ ci_X4_24 (c_X1i _ _ e (by rw [kd_al, if_pos rfl]; exact hke) v d n) rfl (by rw [hR]; decide) (by rw [hR]; decide) (by rw [hR]; exact Nat.le_of_ble_eq_true rfl) (Nat.le_of_ble_eq_true rfl) rfl dX4_tell_11 (fun _ _ h => False.elim h) (fun r_11 M_11 h_11 => ?_)
  obtain ⟨rfl, rfl⟩ := h_11
  have hle : l ≠ e := fun z => by have h1 := hl4.1; rw [z, he] at h1; omega
  have hLK : LK (entM M e ke v d n) l 2 := LK_ent hl4 he hle
  refine z_callL g _ _ cv_X4_27 rfl (c_add2 _ (entM M e ke v d n) l e hLK (by decide) (by decide) (by rw [ln_entM, if_neg hle]; exact hll) (by rw [kd_entM, if_pos rfl]; exact hke)) hLK.1 rfl (by rw [hR]; decide) (by rw [hR]; decide) (by rw [hR]; exact Nat.le_of_ble_eq_true rfl) (Nat.le_of_ble_eq_true rfl) rfl dX4_tell_14 (fun _ _ h => False.elim h) (fun r_14 M_14 h_14 => ?_)
  obtain ⟨rfl, rfl⟩ := h_14
  refine z_pop g dX4_tell_17 rfl ?_
  exact z_vret g hrt (by decide) (by decide) dX4_tell_18 ⟨e, he, rfl, rfl⟩
set_option maxHeartbeats 4000000 in
set_option maxRecDepth 100000 in
theorem c_X9i (E : Ev) (M : Mm) (t kk : Nat) (k1 : kd M t % 1000 = 10) (hkk : kk % 1000 = 171) : CT E yX9_init cX9_init 2 none 1 1 27 [.ref t] M ((fun r M' => ∃ a S, kd M a = 0 ∧ r = none ∧ M' = rowI (sR (al M a kk 27) t 0 (some a)) a S ∧ ∀ i, i < 27 → S i = nI i)) noX := by
  refine CT.of rfl (Nat.le_of_ble_eq_true rfl) (fun X g hrt hno hE hN hR hI => ?_)
  subst hE
  have fill_ : ∀ (M1 : Mm) (a : Nat) (kt : kd M1 t % 1000 = 10) (ka : kd M1 a % 1000 = 171) (ra : fR M1 t 0 = some a) (la : ln M1 a = 27) (hp : ∀ S : Nat → Int32, (∀ i, i < 27 → S i = nI i) → (fun r M' => ∃ a S, kd M a = 0 ∧ r = none ∧ M' = rowI (sR (al M a kk 27) t 0 (some a)) a S ∧ ∀ i, i < 27 → S i = nI i) (none : Option Value) (rowI M1 a S)) (k j : Nat) (S : Nat → Int32) (hk : k + j = 27) (hS : ∀ i, i < j → S i = nI i), Z X (rowI M1 a S) 1 27 14 [(0, .ref t), (1, .int (nI j))] [] := by
    intro M1 a kt ka ra la hp k
    induction k using Nat.strongRecOn with
    | _ k ih =>
      intro j S hk hS
      refine z_iload_n g dX9_init_14 rfl ?_
      refine z_aload_n g dX9_init_15 rfl ?_
      refine z_getR g fl_X9_9 kt (by decide) rfl ra dX9_init_16 ?_
      refine z_alenIk (k := 171) g ka (by decide) dX9_init_19 ?_
      rw [show ln (rowI M1 a S) a = 27 from la]
      refine z_icmp_ge (tgt := 36) g dX9_init_20 (by decide) (fun c_20 => ?_) (fun c_20 => ?_)
      · rw [nI_leI (by omega) (by omega)] at c_20
        exact z_vret g hrt (by decide) (by decide) dX9_init_36 (hp S (fun i hi => hS i (by omega)))
      have h20 : j < 27 := by rw [nI_leI (by omega) (by omega)] at c_20; omega
      refine z_aload_n g dX9_init_23 rfl ?_
      refine z_getR g fl_X9_9 kt (by decide) rfl ra dX9_init_24 ?_
      refine z_iload_n g dX9_init_27 rfl ?_
      refine z_iload_n g dX9_init_28 rfl ?_
      refine z_iastk (k := 171) g ka (by decide) (vp_in_nI (by show _ < ln M1 a; omega) (by show ln M1 a < _; omega)) dX9_init_29 ?_
      rw [nI_clamp (by omega), sI_row, rowI_s, rowI_rowI]
      refine z_iinc1 g dX9_init_30 rfl (by rw [hN]; decide) ?_
      refine z_goto (tgt := 14) g dX9_init_33 (by decide) ?_
      rw [nI_s]
      refine z_to (ih (k - 1) (by omega) (j + 1) _ (by omega) (fun i hi => ?_)) ⟨rfl, rfl, trivial⟩
      unfold pu
      by_cases hij : i = j
      · rw [if_pos hij, hij]
      · rw [if_neg hij]; exact hS i (by omega)
  refine z_aload_n g dX9_init_0 rfl ?_
  refine z_objInit g oi_X9 oi_inst oi_code (by rw [hR]; decide) (by rw [hR]; decide) dX9_init_1 ?_
  refine z_aload_n g dX9_init_4 rfl ?_
  refine z_bipush (v := 27) g dX9_init_5 (by decide) ?_
  refine z_newI (N := 27) g kk (by omega) (by omega) ac_int (by decide) (by decide) (by decide) (by rw [hR]; decide) (by rw [hR]; decide) dX9_init_7 (fun a ha => ?_)
  have hta : t ≠ a := fun z => by rw [z, ha] at k1; cases k1
  refine z_putR g fp_X9_9 rfl (by rw [kd_al, if_neg hta]; exact k1) (by decide) rfl (fun _ => hI rfl) dX9_init_9 ?_
  refine z_iconst (v := 0) g dX9_init_12 (by decide) ?_
  refine z_istore_n g dX9_init_13 (by rw [hN]; decide) ?_
  have kt : kd (sR (al M a kk 27) t 0 (some a)) t % 1000 = 10 := by show kd (al M a kk 27) t % 1000 = 10; rw [kd_al, if_neg hta]; exact k1
  have ka : kd (sR (al M a kk 27) t 0 (some a)) a % 1000 = 171 := by show kd (al M a kk 27) a % 1000 = 171; rw [kd_al, if_pos rfl]; exact hkk
  have ra : fR (sR (al M a kk 27) t 0 (some a)) t 0 = some a := by rw [fR_sR, if_pos ⟨rfl, rfl⟩]
  have la : ln (sR (al M a kk 27) t 0 (some a)) a = 27 := by show ln (al M a kk 27) a = 27; rw [ln_al, if_pos rfl]
  rw [← rowI_self (sR (al M a kk 27) t 0 (some a)) a]
  exact z_to (fill_ _ a kt ka ra la (fun S hS => ⟨a, S, ha, rfl, rfl, hS⟩) 27 0 _ rfl (fun i hi => absurd hi (Nat.not_lt_zero i))) ⟨rfl, rfl, trivial⟩
set_option maxHeartbeats 4000000 in
set_option maxRecDepth 100000 in
theorem c_X0i (E : Ev) (M : Mm) (s : Nat) (k1 : kd M s % 1000 = 1) : CT E yX0_init cX0_init 1 none 1 3 36 [.ref s] M ((fun r M' => ∃ c w l, kd M c = 0 ∧ kd (sR (al M c 172 4) s 0 (some c)) w = 0 ∧ kd (sR (al (sR (al M c 172 4) s 0 (some c)) w 173 16) s 1 (some w)) l = 0 ∧ r = none ∧ M' = sR (al (sR (al (sR (al M c 172 4) s 0 (some c)) w 173 16) s 1 (some w)) l 174 16) s 2 (some l))) noX := by
  refine CT.of rfl (Nat.le_of_ble_eq_true rfl) (fun X g hrt hno hE hN hR hI => ?_)
  subst hE
  refine z_aload_n g dX0_init_0 rfl ?_
  refine z_objInit g oi_X0 oi_inst oi_code (by rw [hR]; decide) (by rw [hR]; decide) dX0_init_1 ?_
  refine z_aload_n g dX0_init_4 rfl ?_
  refine z_iconst (v := 4) g dX0_init_5 (by decide) ?_
  refine z_newI (N := 4) g 172 (by decide) (by decide) ac_int (by decide) (by decide) (by decide) (by rw [hR]; decide) (by rw [hR]; decide) dX0_init_6 (fun c hc => ?_)
  have sc : s ≠ c := fun z => by rw [z, hc] at k1; cases k1
  refine z_putR g fp_X0_9 rfl (by rw [kd_al, if_neg sc]; exact k1) (by decide) rfl (fun _ => hI rfl) dX0_init_8 ?_
  refine z_aload_n g dX0_init_11 rfl ?_
  refine z_bipush (v := 16) g dX0_init_12 (by decide) ?_
  refine z_newI (N := 16) g 173 (by decide) (by decide) ac_int (by decide) (by decide) (by decide) (by rw [hR]; decide) (by rw [hR]; decide) dX0_init_14 (fun w hw => ?_)
  have sw : s ≠ w := fun z => by rw [← z, kd_sR, kd_al, if_neg sc] at hw; rw [hw] at k1; cases k1
  refine z_putR g fp_X0_15 rfl (by rw [kd_al, if_neg sw, kd_sR, kd_al, if_neg sc]; exact k1) (by decide) rfl (fun _ => hI rfl) dX0_init_16 ?_
  refine z_aload_n g dX0_init_19 rfl ?_
  refine z_bipush (v := 16) g dX0_init_20 (by decide) ?_
  refine z_newI (N := 16) g 174 (by decide) (by decide) ac_int (by decide) (by decide) (by decide) (by rw [hR]; decide) (by rw [hR]; decide) dX0_init_22 (fun l hl => ?_)
  have sl_ : s ≠ l := fun z => by rw [← z, kd_sR, kd_al, if_neg sw, kd_sR, kd_al, if_neg sc] at hl; rw [hl] at k1; cases k1
  refine z_putR g fp_X0_18 rfl (by rw [kd_al, if_neg sl_, kd_sR, kd_al, if_neg sw, kd_sR, kd_al, if_neg sc]; exact k1) (by decide) rfl (fun _ => hI rfl) dX0_init_24 ?_
  exact z_vret g hrt (by decide) (by decide) dX0_init_27 ⟨c, w, l, hc, hw, hl, rfl, rfl⟩
